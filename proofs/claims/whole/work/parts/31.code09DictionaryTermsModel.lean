theorem d_134_0 : am_code 134 0 = some (.iload_n 1, 1) := by decide +kernel
theorem s_134_0 (cl : am_C) (a0 : Option am_V) (x : Int) (st : List am_V) (h : am_H) : am_go0 cl 134 0 [a0, some (.inl x)] st h = am_go0 cl 134 1 [a0, some (.inl x)] (.inl x :: st) h := am_r am_m134 d_134_0 rfl
theorem d_134_1 : am_code 134 1 = some (.iconst 0, 1) := by decide +kernel
theorem s_134_1 (cl : am_C) (ls : am_Ls) (st : List am_V) (h : am_H) : am_go0 cl 134 1 ls st h = am_go0 cl 134 2 ls (.inl 0 :: st) h := am_rK am_m134 d_134_1 (by decide) rfl _ _ _
theorem d_134_2 : am_code 134 2 = some (.iconst 2, 1) := by decide +kernel
theorem s_134_2 (cl : am_C) (ls : am_Ls) (st : List am_V) (h : am_H) : am_go0 cl 134 2 ls st h = am_go0 cl 134 3 ls (.inl 2 :: st) h := am_rK am_m134 d_134_2 (by decide) rfl _ _ _
theorem d_134_3 : am_code 134 3 = some (.invokestatic 151, 3) := by decide +kernel
theorem s_134_3 (cl : am_C) (ls : am_Ls) (x0 : Int) (x1 : Int) (x2 : Int) (h : am_H) : am_go0 cl 134 3 ls [.inl x2, .inl x1, .inl x0] h = am_bd (cl 135 [.inl x0, .inl x1, .inl x2] h) (fun v h2 => am_go0 cl 134 6 ls (v.toList ++ []) h2) := am_rVs am_m134 d_134_3 am_k9151 rfl (Nat.le_of_ble_eq_true rfl) rfl ls
theorem d_134_6 : am_code 134 6 = some (.ifCond .ne 6, 3) := by decide +kernel
theorem s_134_6 (cl : am_C) (ls : am_Ls) (x : Int) (st : List am_V) (h : am_H) : am_go0 cl 134 6 ls (.inl x :: st) h = if x = 0 then am_go0 cl 134 9 ls st h else am_go0 cl 134 12 ls st h := (am_rJ1 am_m134 d_134_6 (by decide) rfl x ls st h).trans (am_ifF ((am_cmp_ne x 0).trans Iff.rfl) _ _)
theorem d_134_9 : am_code 134 9 = some (.bipush (-2), 2) := by decide +kernel
theorem s_134_9 (cl : am_C) (ls : am_Ls) (st : List am_V) (h : am_H) : am_go0 cl 134 9 ls st h = am_go0 cl 134 11 ls (.inl (-2) :: st) h := am_rB am_m134 d_134_9 (by decide) rfl _ _ _
theorem d_134_11 : am_code 134 11 = some (.ireturn, 1) := by decide +kernel
theorem s_134_11 (cl : am_C) (ls : am_Ls) (x : Int) (h : am_H) : am_go0 cl 134 11 ls [.inl x] h = some (some (.inl x), h) := am_rE am_m134 d_134_11 rfl
theorem d_134_12 : am_code 134 12 = some (.aload_n 0, 1) := by decide +kernel
theorem s_134_12 (cl : am_C) (a1 : Option am_V) (x : Nat) (st : List am_V) (h : am_H) : am_go0 cl 134 12 [some (.inr (.inr (some x))), a1] st h = am_go0 cl 134 13 [some (.inr (.inr (some x))), a1] (.inr (.inr (some x)) :: st) h := am_r am_m134 d_134_12 rfl
theorem d_134_13 : am_code 134 13 = some (.getfield 155, 3) := by decide +kernel
theorem s_134_13 (cl : am_C) (ls : am_Ls) (st : List am_V) (N : Nat) (I : Nat → Int → Int) (L : Nat → Int → Int64) : am_go0 cl 134 13 ls (.inr (.inr (some 53)) :: st) (am_GS N, am_GR, I, L) = am_go0 cl 134 16 ls (.inl (I 53 0) :: st) (am_GS N, am_GR, I, L) := am_rG0 am_m134 d_134_13 am_f9155 rfl (gs_53 N) (by decide) rfl
theorem d_134_16 : am_code 134 16 = some (.bipush 8, 2) := by decide +kernel
theorem s_134_16 (cl : am_C) (ls : am_Ls) (st : List am_V) (h : am_H) : am_go0 cl 134 16 ls st h = am_go0 cl 134 18 ls (.inl 8 :: st) h := am_rB am_m134 d_134_16 (by decide) rfl _ _ _
theorem d_134_18 : am_code 134 18 = some (.if_icmp .ne 6, 3) := by decide +kernel
theorem s_134_18 (cl : am_C) (ls : am_Ls) (x y : Int) (st : List am_V) (h : am_H) : am_go0 cl 134 18 ls (.inl y :: .inl x :: st) h = if x = y then am_go0 cl 134 21 ls st h else am_go0 cl 134 24 ls st h := (am_rJ0 am_m134 d_134_18 (by decide) rfl x y ls st h).trans (am_ifF ((am_cmp_ne x y).trans Iff.rfl) _ _)
theorem d_134_21 : am_code 134 21 = some (.bipush (-3), 2) := by decide +kernel
theorem s_134_21 (cl : am_C) (ls : am_Ls) (st : List am_V) (h : am_H) : am_go0 cl 134 21 ls st h = am_go0 cl 134 23 ls (.inl (-3) :: st) h := am_rB am_m134 d_134_21 (by decide) rfl _ _ _
theorem d_134_23 : am_code 134 23 = some (.ireturn, 1) := by decide +kernel
theorem s_134_23 (cl : am_C) (ls : am_Ls) (x : Int) (h : am_H) : am_go0 cl 134 23 ls [.inl x] h = some (some (.inl x), h) := am_rE am_m134 d_134_23 rfl
theorem d_134_24 : am_code 134 24 = some (.aload_n 0, 1) := by decide +kernel
theorem s_134_24 (cl : am_C) (a1 : Option am_V) (x : Nat) (st : List am_V) (h : am_H) : am_go0 cl 134 24 [some (.inr (.inr (some x))), a1] st h = am_go0 cl 134 25 [some (.inr (.inr (some x))), a1] (.inr (.inr (some x)) :: st) h := am_r am_m134 d_134_24 rfl
theorem d_134_25 : am_code 134 25 = some (.getfield 7, 3) := by decide +kernel
theorem s_134_25 (cl : am_C) (ls : am_Ls) (st : List am_V) (N : Nat) (I : Nat → Int → Int) (L : Nat → Int → Int64) : am_go0 cl 134 25 ls (.inr (.inr (some 53)) :: st) (am_GS N, am_GR, I, L) = am_go0 cl 134 28 ls (.inr (.inr (some 54)) :: st) (am_GS N, am_GR, I, L) := am_rG2 am_m134 d_134_25 am_f9007 rfl (gs_53 N) (by decide) gr_53_1 rfl
theorem d_134_28 : am_code 134 28 = some (.aload_n 0, 1) := by decide +kernel
theorem s_134_28 (cl : am_C) (a1 : Option am_V) (x : Nat) (st : List am_V) (h : am_H) : am_go0 cl 134 28 [some (.inr (.inr (some x))), a1] st h = am_go0 cl 134 29 [some (.inr (.inr (some x))), a1] (.inr (.inr (some x)) :: st) h := am_r am_m134 d_134_28 rfl
theorem d_134_29 : am_code 134 29 = some (.getfield 155, 3) := by decide +kernel
theorem s_134_29 (cl : am_C) (ls : am_Ls) (st : List am_V) (N : Nat) (I : Nat → Int → Int) (L : Nat → Int → Int64) : am_go0 cl 134 29 ls (.inr (.inr (some 53)) :: st) (am_GS N, am_GR, I, L) = am_go0 cl 134 32 ls (.inl (I 53 0) :: st) (am_GS N, am_GR, I, L) := am_rG0 am_m134 d_134_29 am_f9155 rfl (gs_53 N) (by decide) rfl
theorem d_134_32 : am_code 134 32 = some (.iload_n 1, 1) := by decide +kernel
theorem s_134_32 (cl : am_C) (a0 : Option am_V) (x : Int) (st : List am_V) (h : am_H) : am_go0 cl 134 32 [a0, some (.inl x)] st h = am_go0 cl 134 33 [a0, some (.inl x)] (.inl x :: st) h := am_r am_m134 d_134_32 rfl
theorem d_134_33 : am_code 134 33 = some (.iastore, 1) := by decide +kernel
theorem s_134_33 (cl : am_C) (ls : am_Ls) (i : Int) (v : Int) (k : Nat) (st : List am_V) (N : Nat) (I : Nat → Int → Int) (L : Nat → Int → Int64) : am_go0 cl 134 33 ls (.inl v :: .inl i :: .inr (.inr (some k)) :: st) (am_GS N, am_GR, I, L) = if am_inb (am_GS N) k 0 i = true then am_go0 cl 134 34 ls st (am_GS N, am_GR, am_uI I k i v, L) else none := am_rS am_m134 d_134_33 rfl k ls st i v _ _ I L
theorem d_134_34 : am_code 134 34 = some (.aload_n 0, 1) := by decide +kernel
theorem s_134_34 (cl : am_C) (a1 : Option am_V) (x : Nat) (st : List am_V) (h : am_H) : am_go0 cl 134 34 [some (.inr (.inr (some x))), a1] st h = am_go0 cl 134 35 [some (.inr (.inr (some x))), a1] (.inr (.inr (some x)) :: st) h := am_r am_m134 d_134_34 rfl
theorem d_134_35 : am_code 134 35 = some (.dup, 1) := by decide +kernel
theorem s_134_35 (cl : am_C) (ls : am_Ls) (x : Nat) (st : List am_V) (h : am_H) : am_go0 cl 134 35 ls (.inr (.inr (some x)) :: st) h = am_go0 cl 134 36 ls (.inr (.inr (some x)) :: .inr (.inr (some x)) :: st) h := am_r am_m134 d_134_35 rfl
theorem d_134_36 : am_code 134 36 = some (.getfield 155, 3) := by decide +kernel
theorem s_134_36 (cl : am_C) (ls : am_Ls) (st : List am_V) (N : Nat) (I : Nat → Int → Int) (L : Nat → Int → Int64) : am_go0 cl 134 36 ls (.inr (.inr (some 53)) :: st) (am_GS N, am_GR, I, L) = am_go0 cl 134 39 ls (.inl (I 53 0) :: st) (am_GS N, am_GR, I, L) := am_rG0 am_m134 d_134_36 am_f9155 rfl (gs_53 N) (by decide) rfl
theorem d_134_39 : am_code 134 39 = some (.iconst 1, 1) := by decide +kernel
theorem s_134_39 (cl : am_C) (ls : am_Ls) (st : List am_V) (h : am_H) : am_go0 cl 134 39 ls st h = am_go0 cl 134 40 ls (.inl 1 :: st) h := am_rK am_m134 d_134_39 (by decide) rfl _ _ _
theorem d_134_40 : am_code 134 40 = some (.iadd, 1) := by decide +kernel
theorem s_134_40 (cl : am_C) (ls : am_Ls) (x y : Int) (st : List am_V) (h : am_H) : am_go0 cl 134 40 ls (.inl y :: .inl x :: st) h = am_go0 cl 134 41 ls (.inl (am_wr (x + y)) :: st) h := am_r am_m134 d_134_40 rfl
theorem d_134_41 : am_code 134 41 = some (.putfield 155, 3) := by decide +kernel
theorem s_134_41 (cl : am_C) (ls : am_Ls) (v : Int) (st : List am_V) (N : Nat) (I : Nat → Int → Int) (L : Nat → Int → Int64) : am_go0 cl 134 41 ls (.inl v :: .inr (.inr (some 53)) :: st) (am_GS N, am_GR, I, L) = am_go0 cl 134 44 ls st (am_GS N, am_GR, am_uI I 53 0 v, L) := am_rP0 am_m134 d_134_41 am_f9155 rfl (gs_53 N) (by decide) rfl
theorem d_134_44 : am_code 134 44 = some (.aload_n 0, 1) := by decide +kernel
theorem s_134_44 (cl : am_C) (a1 : Option am_V) (x : Nat) (st : List am_V) (h : am_H) : am_go0 cl 134 44 [some (.inr (.inr (some x))), a1] st h = am_go0 cl 134 45 [some (.inr (.inr (some x))), a1] (.inr (.inr (some x)) :: st) h := am_r am_m134 d_134_44 rfl
theorem d_134_45 : am_code 134 45 = some (.getfield 155, 3) := by decide +kernel
theorem s_134_45 (cl : am_C) (ls : am_Ls) (st : List am_V) (N : Nat) (I : Nat → Int → Int) (L : Nat → Int → Int64) : am_go0 cl 134 45 ls (.inr (.inr (some 53)) :: st) (am_GS N, am_GR, I, L) = am_go0 cl 134 48 ls (.inl (I 53 0) :: st) (am_GS N, am_GR, I, L) := am_rG0 am_m134 d_134_45 am_f9155 rfl (gs_53 N) (by decide) rfl
theorem d_134_48 : am_code 134 48 = some (.iconst 1, 1) := by decide +kernel
theorem s_134_48 (cl : am_C) (ls : am_Ls) (st : List am_V) (h : am_H) : am_go0 cl 134 48 ls st h = am_go0 cl 134 49 ls (.inl 1 :: st) h := am_rK am_m134 d_134_48 (by decide) rfl _ _ _
theorem d_134_49 : am_code 134 49 = some (.isub, 1) := by decide +kernel
theorem s_134_49 (cl : am_C) (ls : am_Ls) (x y : Int) (st : List am_V) (h : am_H) : am_go0 cl 134 49 ls (.inl y :: .inl x :: st) h = am_go0 cl 134 50 ls (.inl (am_wr (x - y)) :: st) h := am_r am_m134 d_134_49 rfl
theorem d_134_50 : am_code 134 50 = some (.ireturn, 1) := by decide +kernel
theorem s_134_50 (cl : am_C) (ls : am_Ls) (x : Int) (h : am_H) : am_go0 cl 134 50 ls [.inl x] h = some (some (.inl x), h) := am_rE am_m134 d_134_50 rfl
theorem e_134 (d : Nat) (t : Nat) (p0 : Int) (h : am_H) : am_call (d + 1) 134 [.inr (.inr (some t)), .inl p0] h = am_go0 (am_call d) 134 0 [some (.inr (.inr (some t))), some (.inl p0)] [] h := am_callE am_m134 (Nat.le_of_ble_eq_true rfl) rfl
theorem d_135_0 : am_code 135 0 = some (.iload_n 0, 1) := by decide +kernel
theorem s_135_0 (cl : am_C) (a1 a2 : Option am_V) (x : Int) (st : List am_V) (h : am_H) : am_go0 cl 135 0 [some (.inl x), a1, a2] st h = am_go0 cl 135 1 [some (.inl x), a1, a2] (.inl x :: st) h := am_r am_m135 d_135_0 rfl
theorem d_135_1 : am_code 135 1 = some (.iload_n 1, 1) := by decide +kernel
theorem s_135_1 (cl : am_C) (a0 a2 : Option am_V) (x : Int) (st : List am_V) (h : am_H) : am_go0 cl 135 1 [a0, some (.inl x), a2] st h = am_go0 cl 135 2 [a0, some (.inl x), a2] (.inl x :: st) h := am_r am_m135 d_135_1 rfl
theorem d_135_2 : am_code 135 2 = some (.if_icmp .lt 12, 3) := by decide +kernel
theorem s_135_2 (cl : am_C) (ls : am_Ls) (x y : Int) (st : List am_V) (h : am_H) : am_go0 cl 135 2 ls (.inl y :: .inl x :: st) h = if x < y then am_go0 cl 135 14 ls st h else am_go0 cl 135 5 ls st h := (am_rJ0 am_m135 d_135_2 (by decide) rfl x y ls st h).trans (am_ifT (am_cmp_lt x y) _ _)
theorem d_135_5 : am_code 135 5 = some (.iload_n 0, 1) := by decide +kernel
theorem s_135_5 (cl : am_C) (a1 a2 : Option am_V) (x : Int) (st : List am_V) (h : am_H) : am_go0 cl 135 5 [some (.inl x), a1, a2] st h = am_go0 cl 135 6 [some (.inl x), a1, a2] (.inl x :: st) h := am_r am_m135 d_135_5 rfl
theorem d_135_6 : am_code 135 6 = some (.iload_n 2, 1) := by decide +kernel
theorem s_135_6 (cl : am_C) (a0 a1 : Option am_V) (x : Int) (st : List am_V) (h : am_H) : am_go0 cl 135 6 [a0, a1, some (.inl x)] st h = am_go0 cl 135 7 [a0, a1, some (.inl x)] (.inl x :: st) h := am_r am_m135 d_135_6 rfl
theorem d_135_7 : am_code 135 7 = some (.if_icmp .gt 7, 3) := by decide +kernel
theorem s_135_7 (cl : am_C) (ls : am_Ls) (x y : Int) (st : List am_V) (h : am_H) : am_go0 cl 135 7 ls (.inl y :: .inl x :: st) h = if y < x then am_go0 cl 135 14 ls st h else am_go0 cl 135 10 ls st h := (am_rJ0 am_m135 d_135_7 (by decide) rfl x y ls st h).trans (am_ifT (am_cmp_gt x y) _ _)
theorem d_135_10 : am_code 135 10 = some (.iconst 1, 1) := by decide +kernel
theorem s_135_10 (cl : am_C) (ls : am_Ls) (st : List am_V) (h : am_H) : am_go0 cl 135 10 ls st h = am_go0 cl 135 11 ls (.inl 1 :: st) h := am_rK am_m135 d_135_10 (by decide) rfl _ _ _
theorem d_135_11 : am_code 135 11 = some (.goto 4, 3) := by decide +kernel
theorem s_135_11 (cl : am_C) (ls : am_Ls) (st : List am_V) (h : am_H) : am_go0 cl 135 11 ls st h = am_go0 cl 135 15 ls st h := am_rGo am_m135 d_135_11 (by decide) _ _ _
theorem d_135_14 : am_code 135 14 = some (.iconst 0, 1) := by decide +kernel
theorem s_135_14 (cl : am_C) (ls : am_Ls) (st : List am_V) (h : am_H) : am_go0 cl 135 14 ls st h = am_go0 cl 135 15 ls (.inl 0 :: st) h := am_rK am_m135 d_135_14 (by decide) rfl _ _ _
theorem d_135_15 : am_code 135 15 = some (.ireturn, 1) := by decide +kernel
theorem s_135_15 (cl : am_C) (ls : am_Ls) (x : Int) (h : am_H) : am_go0 cl 135 15 ls [.inl x] h = if x = 0 ∨ x = 1 then some (some (.inl x), h) else none := am_rRz am_m135 d_135_15 x ls h
theorem e_135 (d : Nat) (p0 : Int) (p1 : Int) (p2 : Int) (h : am_H) : am_call (d + 1) 135 [.inl p0, .inl p1, .inl p2] h = am_go0 (am_call d) 135 0 [some (.inl p0), some (.inl p1), some (.inl p2)] [] h := am_callE am_m135 (Nat.le_of_ble_eq_true rfl) rfl
theorem d_136_0 : am_code 136 0 = some (.iload_n 1, 1) := by decide +kernel
theorem s_136_0 (cl : am_C) (a0 a2 a3 : Option am_V) (x : Int) (st : List am_V) (h : am_H) : am_go0 cl 136 0 [a0, some (.inl x), a2, a3] st h = am_go0 cl 136 1 [a0, some (.inl x), a2, a3] (.inl x :: st) h := am_r am_m136 d_136_0 rfl
theorem d_136_1 : am_code 136 1 = some (.iconst 0, 1) := by decide +kernel
theorem s_136_1 (cl : am_C) (ls : am_Ls) (st : List am_V) (h : am_H) : am_go0 cl 136 1 ls st h = am_go0 cl 136 2 ls (.inl 0 :: st) h := am_rK am_m136 d_136_1 (by decide) rfl _ _ _
theorem d_136_2 : am_code 136 2 = some (.aload_n 0, 1) := by decide +kernel
theorem s_136_2 (cl : am_C) (a1 a2 a3 : Option am_V) (x : Nat) (st : List am_V) (h : am_H) : am_go0 cl 136 2 [some (.inr (.inr (some x))), a1, a2, a3] st h = am_go0 cl 136 3 [some (.inr (.inr (some x))), a1, a2, a3] (.inr (.inr (some x)) :: st) h := am_r am_m136 d_136_2 rfl
theorem d_136_3 : am_code 136 3 = some (.getfield 155, 3) := by decide +kernel
theorem s_136_3 (cl : am_C) (ls : am_Ls) (st : List am_V) (N : Nat) (I : Nat → Int → Int) (L : Nat → Int → Int64) : am_go0 cl 136 3 ls (.inr (.inr (some 53)) :: st) (am_GS N, am_GR, I, L) = am_go0 cl 136 6 ls (.inl (I 53 0) :: st) (am_GS N, am_GR, I, L) := am_rG0 am_m136 d_136_3 am_f9155 rfl (gs_53 N) (by decide) rfl
theorem d_136_6 : am_code 136 6 = some (.iconst 1, 1) := by decide +kernel
theorem s_136_6 (cl : am_C) (ls : am_Ls) (st : List am_V) (h : am_H) : am_go0 cl 136 6 ls st h = am_go0 cl 136 7 ls (.inl 1 :: st) h := am_rK am_m136 d_136_6 (by decide) rfl _ _ _
theorem d_136_7 : am_code 136 7 = some (.isub, 1) := by decide +kernel
theorem s_136_7 (cl : am_C) (ls : am_Ls) (x y : Int) (st : List am_V) (h : am_H) : am_go0 cl 136 7 ls (.inl y :: .inl x :: st) h = am_go0 cl 136 8 ls (.inl (am_wr (x - y)) :: st) h := am_r am_m136 d_136_7 rfl
theorem d_136_8 : am_code 136 8 = some (.invokestatic 151, 3) := by decide +kernel
theorem s_136_8 (cl : am_C) (ls : am_Ls) (x0 : Int) (x1 : Int) (x2 : Int) (h : am_H) : am_go0 cl 136 8 ls [.inl x2, .inl x1, .inl x0] h = am_bd (cl 135 [.inl x0, .inl x1, .inl x2] h) (fun v h2 => am_go0 cl 136 11 ls (v.toList ++ []) h2) := am_rVs am_m136 d_136_8 am_k9151 rfl (Nat.le_of_ble_eq_true rfl) rfl ls
theorem d_136_11 : am_code 136 11 = some (.ifCond .eq 38, 3) := by decide +kernel
theorem s_136_11 (cl : am_C) (ls : am_Ls) (x : Int) (st : List am_V) (h : am_H) : am_go0 cl 136 11 ls (.inl x :: st) h = if x = 0 then am_go0 cl 136 49 ls st h else am_go0 cl 136 14 ls st h := (am_rJ1 am_m136 d_136_11 (by decide) rfl x ls st h).trans (am_ifT (am_cmp_eq x 0) _ _)
theorem d_136_14 : am_code 136 14 = some (.aload_n 0, 1) := by decide +kernel
theorem s_136_14 (cl : am_C) (a1 a2 a3 : Option am_V) (x : Nat) (st : List am_V) (h : am_H) : am_go0 cl 136 14 [some (.inr (.inr (some x))), a1, a2, a3] st h = am_go0 cl 136 15 [some (.inr (.inr (some x))), a1, a2, a3] (.inr (.inr (some x)) :: st) h := am_r am_m136 d_136_14 rfl
theorem d_136_15 : am_code 136 15 = some (.getfield 7, 3) := by decide +kernel
theorem s_136_15 (cl : am_C) (ls : am_Ls) (st : List am_V) (N : Nat) (I : Nat → Int → Int) (L : Nat → Int → Int64) : am_go0 cl 136 15 ls (.inr (.inr (some 53)) :: st) (am_GS N, am_GR, I, L) = am_go0 cl 136 18 ls (.inr (.inr (some 54)) :: st) (am_GS N, am_GR, I, L) := am_rG2 am_m136 d_136_15 am_f9007 rfl (gs_53 N) (by decide) gr_53_1 rfl
theorem d_136_18 : am_code 136 18 = some (.iload_n 1, 1) := by decide +kernel
theorem s_136_18 (cl : am_C) (a0 a2 a3 : Option am_V) (x : Int) (st : List am_V) (h : am_H) : am_go0 cl 136 18 [a0, some (.inl x), a2, a3] st h = am_go0 cl 136 19 [a0, some (.inl x), a2, a3] (.inl x :: st) h := am_r am_m136 d_136_18 rfl
theorem d_136_19 : am_code 136 19 = some (.iaload, 1) := by decide +kernel
theorem s_136_19 (cl : am_C) (ls : am_Ls) (i : Int) (k : Nat) (st : List am_V) (N : Nat) (I : Nat → Int → Int) (L : Nat → Int → Int64) : am_go0 cl 136 19 ls (.inl i :: .inr (.inr (some k)) :: st) (am_GS N, am_GR, I, L) = if am_inb (am_GS N) k 0 i = true then am_go0 cl 136 20 ls (.inl (I k i) :: st) (am_GS N, am_GR, I, L) else none := am_rA am_m136 d_136_19 (by decide) rfl k ls st i _ _ I L
theorem d_136_20 : am_code 136 20 = some (.ifCond .le 11, 3) := by decide +kernel
theorem s_136_20 (cl : am_C) (ls : am_Ls) (x : Int) (st : List am_V) (h : am_H) : am_go0 cl 136 20 ls (.inl x :: st) h = if 0 < x then am_go0 cl 136 23 ls st h else am_go0 cl 136 31 ls st h := (am_rJ1 am_m136 d_136_20 (by decide) rfl x ls st h).trans (am_ifF ((am_cmp_le x 0).trans Int.not_lt.symm) _ _)
theorem d_136_23 : am_code 136 23 = some (.aload_n 0, 1) := by decide +kernel
theorem s_136_23 (cl : am_C) (a1 a2 a3 : Option am_V) (x : Nat) (st : List am_V) (h : am_H) : am_go0 cl 136 23 [some (.inr (.inr (some x))), a1, a2, a3] st h = am_go0 cl 136 24 [some (.inr (.inr (some x))), a1, a2, a3] (.inr (.inr (some x)) :: st) h := am_r am_m136 d_136_23 rfl
theorem d_136_24 : am_code 136 24 = some (.iload_n 2, 1) := by decide +kernel
theorem s_136_24 (cl : am_C) (a0 a1 a3 : Option am_V) (x : Int) (st : List am_V) (h : am_H) : am_go0 cl 136 24 [a0, a1, some (.inl x), a3] st h = am_go0 cl 136 25 [a0, a1, some (.inl x), a3] (.inl x :: st) h := am_r am_m136 d_136_24 rfl
theorem d_136_25 : am_code 136 25 = some (.invokevirtual 158, 3) := by decide +kernel
theorem s_136_25 (cl : am_C) (ls : am_Ls) (x0 : Int) (N : Nat) (I : Nat → Int → Int) (L : Nat → Int → Int64) : am_go0 cl 136 25 ls [.inl x0, .inr (.inr (some 53))] (am_GS N, am_GR, I, L) = am_bd (cl 137 [.inr (.inr (some 53)), .inl x0] (am_GS N, am_GR, I, L)) (fun v h2 => am_go0 cl 136 28 ls (v.toList ++ []) h2) := am_rV am_m136 d_136_25 am_k9158 rfl am_m137 (gs_53 N) (by decide) (Nat.le_of_ble_eq_true rfl) rfl ls
theorem d_136_28 : am_code 136 28 = some (.ifCond .eq 21, 3) := by decide +kernel
theorem s_136_28 (cl : am_C) (ls : am_Ls) (x : Int) (st : List am_V) (h : am_H) : am_go0 cl 136 28 ls (.inl x :: st) h = if x = 0 then am_go0 cl 136 49 ls st h else am_go0 cl 136 31 ls st h := (am_rJ1 am_m136 d_136_28 (by decide) rfl x ls st h).trans (am_ifT (am_cmp_eq x 0) _ _)
theorem d_136_31 : am_code 136 31 = some (.aload_n 0, 1) := by decide +kernel
theorem s_136_31 (cl : am_C) (a1 a2 a3 : Option am_V) (x : Nat) (st : List am_V) (h : am_H) : am_go0 cl 136 31 [some (.inr (.inr (some x))), a1, a2, a3] st h = am_go0 cl 136 32 [some (.inr (.inr (some x))), a1, a2, a3] (.inr (.inr (some x)) :: st) h := am_r am_m136 d_136_31 rfl
theorem d_136_32 : am_code 136 32 = some (.getfield 7, 3) := by decide +kernel
theorem s_136_32 (cl : am_C) (ls : am_Ls) (st : List am_V) (N : Nat) (I : Nat → Int → Int) (L : Nat → Int → Int64) : am_go0 cl 136 32 ls (.inr (.inr (some 53)) :: st) (am_GS N, am_GR, I, L) = am_go0 cl 136 35 ls (.inr (.inr (some 54)) :: st) (am_GS N, am_GR, I, L) := am_rG2 am_m136 d_136_32 am_f9007 rfl (gs_53 N) (by decide) gr_53_1 rfl
theorem d_136_35 : am_code 136 35 = some (.iload_n 1, 1) := by decide +kernel
theorem s_136_35 (cl : am_C) (a0 a2 a3 : Option am_V) (x : Int) (st : List am_V) (h : am_H) : am_go0 cl 136 35 [a0, some (.inl x), a2, a3] st h = am_go0 cl 136 36 [a0, some (.inl x), a2, a3] (.inl x :: st) h := am_r am_m136 d_136_35 rfl
theorem d_136_36 : am_code 136 36 = some (.iaload, 1) := by decide +kernel
theorem s_136_36 (cl : am_C) (ls : am_Ls) (i : Int) (k : Nat) (st : List am_V) (N : Nat) (I : Nat → Int → Int) (L : Nat → Int → Int64) : am_go0 cl 136 36 ls (.inl i :: .inr (.inr (some k)) :: st) (am_GS N, am_GR, I, L) = if am_inb (am_GS N) k 0 i = true then am_go0 cl 136 37 ls (.inl (I k i) :: st) (am_GS N, am_GR, I, L) else none := am_rA am_m136 d_136_36 (by decide) rfl k ls st i _ _ I L
theorem d_136_37 : am_code 136 37 = some (.iconst 1, 1) := by decide +kernel
theorem s_136_37 (cl : am_C) (ls : am_Ls) (st : List am_V) (h : am_H) : am_go0 cl 136 37 ls st h = am_go0 cl 136 38 ls (.inl 1 :: st) h := am_rK am_m136 d_136_37 (by decide) rfl _ _ _
theorem d_136_38 : am_code 136 38 = some (.if_icmp .le 14, 3) := by decide +kernel
theorem s_136_38 (cl : am_C) (ls : am_Ls) (x y : Int) (st : List am_V) (h : am_H) : am_go0 cl 136 38 ls (.inl y :: .inl x :: st) h = if y < x then am_go0 cl 136 41 ls st h else am_go0 cl 136 52 ls st h := (am_rJ0 am_m136 d_136_38 (by decide) rfl x y ls st h).trans (am_ifF ((am_cmp_le x y).trans Int.not_lt.symm) _ _)
theorem d_136_41 : am_code 136 41 = some (.aload_n 0, 1) := by decide +kernel
theorem s_136_41 (cl : am_C) (a1 a2 a3 : Option am_V) (x : Nat) (st : List am_V) (h : am_H) : am_go0 cl 136 41 [some (.inr (.inr (some x))), a1, a2, a3] st h = am_go0 cl 136 42 [some (.inr (.inr (some x))), a1, a2, a3] (.inr (.inr (some x)) :: st) h := am_r am_m136 d_136_41 rfl
theorem d_136_42 : am_code 136 42 = some (.iload_n 3, 1) := by decide +kernel
theorem s_136_42 (cl : am_C) (a0 a1 a2 : Option am_V) (x : Int) (st : List am_V) (h : am_H) : am_go0 cl 136 42 [a0, a1, a2, some (.inl x)] st h = am_go0 cl 136 43 [a0, a1, a2, some (.inl x)] (.inl x :: st) h := am_r am_m136 d_136_42 rfl
theorem d_136_43 : am_code 136 43 = some (.invokevirtual 158, 3) := by decide +kernel
theorem s_136_43 (cl : am_C) (ls : am_Ls) (x0 : Int) (N : Nat) (I : Nat → Int → Int) (L : Nat → Int → Int64) : am_go0 cl 136 43 ls [.inl x0, .inr (.inr (some 53))] (am_GS N, am_GR, I, L) = am_bd (cl 137 [.inr (.inr (some 53)), .inl x0] (am_GS N, am_GR, I, L)) (fun v h2 => am_go0 cl 136 46 ls (v.toList ++ []) h2) := am_rV am_m136 d_136_43 am_k9158 rfl am_m137 (gs_53 N) (by decide) (Nat.le_of_ble_eq_true rfl) rfl ls
theorem d_136_46 : am_code 136 46 = some (.ifCond .ne 6, 3) := by decide +kernel
theorem s_136_46 (cl : am_C) (ls : am_Ls) (x : Int) (st : List am_V) (h : am_H) : am_go0 cl 136 46 ls (.inl x :: st) h = if x = 0 then am_go0 cl 136 49 ls st h else am_go0 cl 136 52 ls st h := (am_rJ1 am_m136 d_136_46 (by decide) rfl x ls st h).trans (am_ifF ((am_cmp_ne x 0).trans Iff.rfl) _ _)
theorem d_136_49 : am_code 136 49 = some (.bipush (-2), 2) := by decide +kernel
theorem s_136_49 (cl : am_C) (ls : am_Ls) (st : List am_V) (h : am_H) : am_go0 cl 136 49 ls st h = am_go0 cl 136 51 ls (.inl (-2) :: st) h := am_rB am_m136 d_136_49 (by decide) rfl _ _ _
theorem d_136_51 : am_code 136 51 = some (.ireturn, 1) := by decide +kernel
theorem s_136_51 (cl : am_C) (ls : am_Ls) (x : Int) (h : am_H) : am_go0 cl 136 51 ls [.inl x] h = some (some (.inl x), h) := am_rE am_m136 d_136_51 rfl
theorem d_136_52 : am_code 136 52 = some (.aload_n 0, 1) := by decide +kernel
theorem s_136_52 (cl : am_C) (a1 a2 a3 : Option am_V) (x : Nat) (st : List am_V) (h : am_H) : am_go0 cl 136 52 [some (.inr (.inr (some x))), a1, a2, a3] st h = am_go0 cl 136 53 [some (.inr (.inr (some x))), a1, a2, a3] (.inr (.inr (some x)) :: st) h := am_r am_m136 d_136_52 rfl
theorem d_136_53 : am_code 136 53 = some (.iload_n 1, 1) := by decide +kernel
theorem s_136_53 (cl : am_C) (a0 a2 a3 : Option am_V) (x : Int) (st : List am_V) (h : am_H) : am_go0 cl 136 53 [a0, some (.inl x), a2, a3] st h = am_go0 cl 136 54 [a0, some (.inl x), a2, a3] (.inl x :: st) h := am_r am_m136 d_136_53 rfl
theorem d_136_54 : am_code 136 54 = some (.aload_n 0, 1) := by decide +kernel
theorem s_136_54 (cl : am_C) (a1 a2 a3 : Option am_V) (x : Nat) (st : List am_V) (h : am_H) : am_go0 cl 136 54 [some (.inr (.inr (some x))), a1, a2, a3] st h = am_go0 cl 136 55 [some (.inr (.inr (some x))), a1, a2, a3] (.inr (.inr (some x)) :: st) h := am_r am_m136 d_136_54 rfl
theorem d_136_55 : am_code 136 55 = some (.getfield 7, 3) := by decide +kernel
theorem s_136_55 (cl : am_C) (ls : am_Ls) (st : List am_V) (N : Nat) (I : Nat → Int → Int) (L : Nat → Int → Int64) : am_go0 cl 136 55 ls (.inr (.inr (some 53)) :: st) (am_GS N, am_GR, I, L) = am_go0 cl 136 58 ls (.inr (.inr (some 54)) :: st) (am_GS N, am_GR, I, L) := am_rG2 am_m136 d_136_55 am_f9007 rfl (gs_53 N) (by decide) gr_53_1 rfl
theorem d_136_58 : am_code 136 58 = some (.iload_n 1, 1) := by decide +kernel
theorem s_136_58 (cl : am_C) (a0 a2 a3 : Option am_V) (x : Int) (st : List am_V) (h : am_H) : am_go0 cl 136 58 [a0, some (.inl x), a2, a3] st h = am_go0 cl 136 59 [a0, some (.inl x), a2, a3] (.inl x :: st) h := am_r am_m136 d_136_58 rfl
theorem d_136_59 : am_code 136 59 = some (.iaload, 1) := by decide +kernel
theorem s_136_59 (cl : am_C) (ls : am_Ls) (i : Int) (k : Nat) (st : List am_V) (N : Nat) (I : Nat → Int → Int) (L : Nat → Int → Int64) : am_go0 cl 136 59 ls (.inl i :: .inr (.inr (some k)) :: st) (am_GS N, am_GR, I, L) = if am_inb (am_GS N) k 0 i = true then am_go0 cl 136 60 ls (.inl (I k i) :: st) (am_GS N, am_GR, I, L) else none := am_rA am_m136 d_136_59 (by decide) rfl k ls st i _ _ I L
theorem d_136_60 : am_code 136 60 = some (.ifCond .le 7, 3) := by decide +kernel
theorem s_136_60 (cl : am_C) (ls : am_Ls) (x : Int) (st : List am_V) (h : am_H) : am_go0 cl 136 60 ls (.inl x :: st) h = if 0 < x then am_go0 cl 136 63 ls st h else am_go0 cl 136 67 ls st h := (am_rJ1 am_m136 d_136_60 (by decide) rfl x ls st h).trans (am_ifF ((am_cmp_le x 0).trans Int.not_lt.symm) _ _)
theorem d_136_63 : am_code 136 63 = some (.iload_n 2, 1) := by decide +kernel
theorem s_136_63 (cl : am_C) (a0 a1 a3 : Option am_V) (x : Int) (st : List am_V) (h : am_H) : am_go0 cl 136 63 [a0, a1, some (.inl x), a3] st h = am_go0 cl 136 64 [a0, a1, some (.inl x), a3] (.inl x :: st) h := am_r am_m136 d_136_63 rfl
theorem d_136_64 : am_code 136 64 = some (.goto 4, 3) := by decide +kernel
theorem s_136_64 (cl : am_C) (ls : am_Ls) (st : List am_V) (h : am_H) : am_go0 cl 136 64 ls st h = am_go0 cl 136 68 ls st h := am_rGo am_m136 d_136_64 (by decide) _ _ _
theorem d_136_67 : am_code 136 67 = some (.iconst (-1), 1) := by decide +kernel
theorem s_136_67 (cl : am_C) (ls : am_Ls) (st : List am_V) (h : am_H) : am_go0 cl 136 67 ls st h = am_go0 cl 136 68 ls (.inl (-1) :: st) h := am_rK am_m136 d_136_67 (by decide) rfl _ _ _
theorem d_136_68 : am_code 136 68 = some (.aload_n 0, 1) := by decide +kernel
theorem s_136_68 (cl : am_C) (a1 a2 a3 : Option am_V) (x : Nat) (st : List am_V) (h : am_H) : am_go0 cl 136 68 [some (.inr (.inr (some x))), a1, a2, a3] st h = am_go0 cl 136 69 [some (.inr (.inr (some x))), a1, a2, a3] (.inr (.inr (some x)) :: st) h := am_r am_m136 d_136_68 rfl
theorem d_136_69 : am_code 136 69 = some (.getfield 7, 3) := by decide +kernel
theorem s_136_69 (cl : am_C) (ls : am_Ls) (st : List am_V) (N : Nat) (I : Nat → Int → Int) (L : Nat → Int → Int64) : am_go0 cl 136 69 ls (.inr (.inr (some 53)) :: st) (am_GS N, am_GR, I, L) = am_go0 cl 136 72 ls (.inr (.inr (some 54)) :: st) (am_GS N, am_GR, I, L) := am_rG2 am_m136 d_136_69 am_f9007 rfl (gs_53 N) (by decide) gr_53_1 rfl
theorem d_136_72 : am_code 136 72 = some (.iload_n 1, 1) := by decide +kernel
theorem s_136_72 (cl : am_C) (a0 a2 a3 : Option am_V) (x : Int) (st : List am_V) (h : am_H) : am_go0 cl 136 72 [a0, some (.inl x), a2, a3] st h = am_go0 cl 136 73 [a0, some (.inl x), a2, a3] (.inl x :: st) h := am_r am_m136 d_136_72 rfl
theorem d_136_73 : am_code 136 73 = some (.iaload, 1) := by decide +kernel
theorem s_136_73 (cl : am_C) (ls : am_Ls) (i : Int) (k : Nat) (st : List am_V) (N : Nat) (I : Nat → Int → Int) (L : Nat → Int → Int64) : am_go0 cl 136 73 ls (.inl i :: .inr (.inr (some k)) :: st) (am_GS N, am_GR, I, L) = if am_inb (am_GS N) k 0 i = true then am_go0 cl 136 74 ls (.inl (I k i) :: st) (am_GS N, am_GR, I, L) else none := am_rA am_m136 d_136_73 (by decide) rfl k ls st i _ _ I L
theorem d_136_74 : am_code 136 74 = some (.iconst 1, 1) := by decide +kernel
theorem s_136_74 (cl : am_C) (ls : am_Ls) (st : List am_V) (h : am_H) : am_go0 cl 136 74 ls st h = am_go0 cl 136 75 ls (.inl 1 :: st) h := am_rK am_m136 d_136_74 (by decide) rfl _ _ _
theorem d_136_75 : am_code 136 75 = some (.if_icmp .le 7, 3) := by decide +kernel
theorem s_136_75 (cl : am_C) (ls : am_Ls) (x y : Int) (st : List am_V) (h : am_H) : am_go0 cl 136 75 ls (.inl y :: .inl x :: st) h = if y < x then am_go0 cl 136 78 ls st h else am_go0 cl 136 82 ls st h := (am_rJ0 am_m136 d_136_75 (by decide) rfl x y ls st h).trans (am_ifF ((am_cmp_le x y).trans Int.not_lt.symm) _ _)
theorem d_136_78 : am_code 136 78 = some (.iload_n 3, 1) := by decide +kernel
theorem s_136_78 (cl : am_C) (a0 a1 a2 : Option am_V) (x : Int) (st : List am_V) (h : am_H) : am_go0 cl 136 78 [a0, a1, a2, some (.inl x)] st h = am_go0 cl 136 79 [a0, a1, a2, some (.inl x)] (.inl x :: st) h := am_r am_m136 d_136_78 rfl
theorem d_136_79 : am_code 136 79 = some (.goto 4, 3) := by decide +kernel
theorem s_136_79 (cl : am_C) (ls : am_Ls) (st : List am_V) (h : am_H) : am_go0 cl 136 79 ls st h = am_go0 cl 136 83 ls st h := am_rGo am_m136 d_136_79 (by decide) _ _ _
theorem d_136_82 : am_code 136 82 = some (.iconst (-1), 1) := by decide +kernel
theorem s_136_82 (cl : am_C) (ls : am_Ls) (st : List am_V) (h : am_H) : am_go0 cl 136 82 ls st h = am_go0 cl 136 83 ls (.inl (-1) :: st) h := am_rK am_m136 d_136_82 (by decide) rfl _ _ _
theorem d_136_83 : am_code 136 83 = some (.invokevirtual 162, 3) := by decide +kernel
theorem s_136_83 (cl : am_C) (ls : am_Ls) (x0 : Int) (x1 : Int) (x2 : Int) (N : Nat) (I : Nat → Int → Int) (L : Nat → Int → Int64) : am_go0 cl 136 83 ls [.inl x2, .inl x1, .inl x0, .inr (.inr (some 53))] (am_GS N, am_GR, I, L) = am_bd (cl 138 [.inr (.inr (some 53)), .inl x0, .inl x1, .inl x2] (am_GS N, am_GR, I, L)) (fun v h2 => am_go0 cl 136 86 ls (v.toList ++ []) h2) := am_rV am_m136 d_136_83 am_k9162 rfl am_m138 (gs_53 N) (by decide) (Nat.le_of_ble_eq_true rfl) rfl ls
theorem d_136_86 : am_code 136 86 = some (.ireturn, 1) := by decide +kernel
theorem s_136_86 (cl : am_C) (ls : am_Ls) (x : Int) (h : am_H) : am_go0 cl 136 86 ls [.inl x] h = some (some (.inl x), h) := am_rE am_m136 d_136_86 rfl
theorem e_136 (d : Nat) (t : Nat) (p0 : Int) (p1 : Int) (p2 : Int) (h : am_H) : am_call (d + 1) 136 [.inr (.inr (some t)), .inl p0, .inl p1, .inl p2] h = am_go0 (am_call d) 136 0 [some (.inr (.inr (some t))), some (.inl p0), some (.inl p1), some (.inl p2)] [] h := am_callE am_m136 (Nat.le_of_ble_eq_true rfl) rfl
theorem d_137_0 : am_code 137 0 = some (.iload_n 1, 1) := by decide +kernel
theorem s_137_0 (cl : am_C) (a0 : Option am_V) (x : Int) (st : List am_V) (h : am_H) : am_go0 cl 137 0 [a0, some (.inl x)] st h = am_go0 cl 137 1 [a0, some (.inl x)] (.inl x :: st) h := am_r am_m137 d_137_0 rfl
theorem d_137_1 : am_code 137 1 = some (.iconst 0, 1) := by decide +kernel
theorem s_137_1 (cl : am_C) (ls : am_Ls) (st : List am_V) (h : am_H) : am_go0 cl 137 1 ls st h = am_go0 cl 137 2 ls (.inl 0 :: st) h := am_rK am_m137 d_137_1 (by decide) rfl _ _ _
theorem d_137_2 : am_code 137 2 = some (.aload_n 0, 1) := by decide +kernel
theorem s_137_2 (cl : am_C) (a1 : Option am_V) (x : Nat) (st : List am_V) (h : am_H) : am_go0 cl 137 2 [some (.inr (.inr (some x))), a1] st h = am_go0 cl 137 3 [some (.inr (.inr (some x))), a1] (.inr (.inr (some x)) :: st) h := am_r am_m137 d_137_2 rfl
theorem d_137_3 : am_code 137 3 = some (.getfield 13, 3) := by decide +kernel
theorem s_137_3 (cl : am_C) (ls : am_Ls) (st : List am_V) (N : Nat) (I : Nat → Int → Int) (L : Nat → Int → Int64) : am_go0 cl 137 3 ls (.inr (.inr (some 53)) :: st) (am_GS N, am_GR, I, L) = am_go0 cl 137 6 ls (.inl (I 53 2) :: st) (am_GS N, am_GR, I, L) := am_rG0 am_m137 d_137_3 am_f9013 rfl (gs_53 N) (by decide) rfl
theorem d_137_6 : am_code 137 6 = some (.iconst 1, 1) := by decide +kernel
theorem s_137_6 (cl : am_C) (ls : am_Ls) (st : List am_V) (h : am_H) : am_go0 cl 137 6 ls st h = am_go0 cl 137 7 ls (.inl 1 :: st) h := am_rK am_m137 d_137_6 (by decide) rfl _ _ _
theorem d_137_7 : am_code 137 7 = some (.isub, 1) := by decide +kernel
theorem s_137_7 (cl : am_C) (ls : am_Ls) (x y : Int) (st : List am_V) (h : am_H) : am_go0 cl 137 7 ls (.inl y :: .inl x :: st) h = am_go0 cl 137 8 ls (.inl (am_wr (x - y)) :: st) h := am_r am_m137 d_137_7 rfl
theorem d_137_8 : am_code 137 8 = some (.invokestatic 151, 3) := by decide +kernel
theorem s_137_8 (cl : am_C) (ls : am_Ls) (x0 : Int) (x1 : Int) (x2 : Int) (h : am_H) : am_go0 cl 137 8 ls [.inl x2, .inl x1, .inl x0] h = am_bd (cl 135 [.inl x0, .inl x1, .inl x2] h) (fun v h2 => am_go0 cl 137 11 ls (v.toList ++ []) h2) := am_rVs am_m137 d_137_8 am_k9151 rfl (Nat.le_of_ble_eq_true rfl) rfl ls
theorem d_137_11 : am_code 137 11 = some (.ireturn, 1) := by decide +kernel
theorem s_137_11 (cl : am_C) (ls : am_Ls) (x : Int) (h : am_H) : am_go0 cl 137 11 ls [.inl x] h = if x = 0 ∨ x = 1 then some (some (.inl x), h) else none := am_rRz am_m137 d_137_11 x ls h
theorem e_137 (d : Nat) (t : Nat) (p0 : Int) (h : am_H) : am_call (d + 1) 137 [.inr (.inr (some t)), .inl p0] h = am_go0 (am_call d) 137 0 [some (.inr (.inr (some t))), some (.inl p0)] [] h := am_callE am_m137 (Nat.le_of_ble_eq_true rfl) rfl
theorem d_138_0 : am_code 138 0 = some (.iconst 2, 1) := by decide +kernel
theorem s_138_0 (cl : am_C) (ls : am_Ls) (st : List am_V) (h : am_H) : am_go0 cl 138 0 ls st h = am_go0 cl 138 1 ls (.inl 2 :: st) h := am_rK am_m138 d_138_0 (by decide) rfl _ _ _
theorem d_138_1 : am_code 138 1 = some (.istore 4, 2) := by decide +kernel
theorem s_138_1 (cl : am_C) (a0 a1 a2 a3 a4 : Option am_V) (x : Int) (st : List am_V) (h : am_H) : am_go0 cl 138 1 [a0, a1, a2, a3, a4] (.inl x :: st) h = am_go0 cl 138 3 [a0, a1, a2, am_c1 a3, some (.inl x)] st h := am_r am_m138 d_138_1 rfl
theorem d_138_3 : am_code 138 3 = some (.iload 4, 2) := by decide +kernel
theorem s_138_3 (cl : am_C) (a0 a1 a2 a3 : Option am_V) (x : Int) (st : List am_V) (h : am_H) : am_go0 cl 138 3 [a0, a1, a2, a3, some (.inl x)] st h = am_go0 cl 138 5 [a0, a1, a2, a3, some (.inl x)] (.inl x :: st) h := am_r am_m138 d_138_3 rfl
theorem d_138_5 : am_code 138 5 = some (.aload_n 0, 1) := by decide +kernel
theorem s_138_5 (cl : am_C) (a1 a2 a3 a4 : Option am_V) (x : Nat) (st : List am_V) (h : am_H) : am_go0 cl 138 5 [some (.inr (.inr (some x))), a1, a2, a3, a4] st h = am_go0 cl 138 6 [some (.inr (.inr (some x))), a1, a2, a3, a4] (.inr (.inr (some x)) :: st) h := am_r am_m138 d_138_5 rfl
theorem d_138_6 : am_code 138 6 = some (.getfield 13, 3) := by decide +kernel
theorem s_138_6 (cl : am_C) (ls : am_Ls) (st : List am_V) (N : Nat) (I : Nat → Int → Int) (L : Nat → Int → Int64) : am_go0 cl 138 6 ls (.inr (.inr (some 53)) :: st) (am_GS N, am_GR, I, L) = am_go0 cl 138 9 ls (.inl (I 53 2) :: st) (am_GS N, am_GR, I, L) := am_rG0 am_m138 d_138_6 am_f9013 rfl (gs_53 N) (by decide) rfl
theorem d_138_9 : am_code 138 9 = some (.if_icmp .ge 45, 3) := by decide +kernel
theorem s_138_9 (cl : am_C) (ls : am_Ls) (x y : Int) (st : List am_V) (h : am_H) : am_go0 cl 138 9 ls (.inl y :: .inl x :: st) h = if x < y then am_go0 cl 138 12 ls st h else am_go0 cl 138 54 ls st h := (am_rJ0 am_m138 d_138_9 (by decide) rfl x y ls st h).trans (am_ifF ((am_cmp_ge x y).trans Int.not_lt.symm) _ _)
theorem d_138_12 : am_code 138 12 = some (.aload_n 0, 1) := by decide +kernel
theorem s_138_12 (cl : am_C) (a1 a2 a3 a4 : Option am_V) (x : Nat) (st : List am_V) (h : am_H) : am_go0 cl 138 12 [some (.inr (.inr (some x))), a1, a2, a3, a4] st h = am_go0 cl 138 13 [some (.inr (.inr (some x))), a1, a2, a3, a4] (.inr (.inr (some x)) :: st) h := am_r am_m138 d_138_12 rfl
theorem d_138_13 : am_code 138 13 = some (.getfield 17, 3) := by decide +kernel
theorem s_138_13 (cl : am_C) (ls : am_Ls) (st : List am_V) (N : Nat) (I : Nat → Int → Int) (L : Nat → Int → Int64) : am_go0 cl 138 13 ls (.inr (.inr (some 53)) :: st) (am_GS N, am_GR, I, L) = am_go0 cl 138 16 ls (.inr (.inr (some 55)) :: st) (am_GS N, am_GR, I, L) := am_rG2 am_m138 d_138_13 am_f9017 rfl (gs_53 N) (by decide) gr_53_3 rfl
theorem d_138_16 : am_code 138 16 = some (.iload 4, 2) := by decide +kernel
theorem s_138_16 (cl : am_C) (a0 a1 a2 a3 : Option am_V) (x : Int) (st : List am_V) (h : am_H) : am_go0 cl 138 16 [a0, a1, a2, a3, some (.inl x)] st h = am_go0 cl 138 18 [a0, a1, a2, a3, some (.inl x)] (.inl x :: st) h := am_r am_m138 d_138_16 rfl
theorem d_138_18 : am_code 138 18 = some (.iaload, 1) := by decide +kernel
theorem s_138_18 (cl : am_C) (ls : am_Ls) (i : Int) (k : Nat) (st : List am_V) (N : Nat) (I : Nat → Int → Int) (L : Nat → Int → Int64) : am_go0 cl 138 18 ls (.inl i :: .inr (.inr (some k)) :: st) (am_GS N, am_GR, I, L) = if am_inb (am_GS N) k 0 i = true then am_go0 cl 138 19 ls (.inl (I k i) :: st) (am_GS N, am_GR, I, L) else none := am_rA am_m138 d_138_18 (by decide) rfl k ls st i _ _ I L
theorem d_138_19 : am_code 138 19 = some (.iload_n 1, 1) := by decide +kernel
theorem s_138_19 (cl : am_C) (a0 a2 a3 a4 : Option am_V) (x : Int) (st : List am_V) (h : am_H) : am_go0 cl 138 19 [a0, some (.inl x), a2, a3, a4] st h = am_go0 cl 138 20 [a0, some (.inl x), a2, a3, a4] (.inl x :: st) h := am_r am_m138 d_138_19 rfl
theorem d_138_20 : am_code 138 20 = some (.if_icmp .ne 28, 3) := by decide +kernel
theorem s_138_20 (cl : am_C) (ls : am_Ls) (x y : Int) (st : List am_V) (h : am_H) : am_go0 cl 138 20 ls (.inl y :: .inl x :: st) h = if x = y then am_go0 cl 138 23 ls st h else am_go0 cl 138 48 ls st h := (am_rJ0 am_m138 d_138_20 (by decide) rfl x y ls st h).trans (am_ifF ((am_cmp_ne x y).trans Iff.rfl) _ _)
theorem d_138_23 : am_code 138 23 = some (.aload_n 0, 1) := by decide +kernel
theorem s_138_23 (cl : am_C) (a1 a2 a3 a4 : Option am_V) (x : Nat) (st : List am_V) (h : am_H) : am_go0 cl 138 23 [some (.inr (.inr (some x))), a1, a2, a3, a4] st h = am_go0 cl 138 24 [some (.inr (.inr (some x))), a1, a2, a3, a4] (.inr (.inr (some x)) :: st) h := am_r am_m138 d_138_23 rfl
theorem d_138_24 : am_code 138 24 = some (.getfield 20, 3) := by decide +kernel
theorem s_138_24 (cl : am_C) (ls : am_Ls) (st : List am_V) (N : Nat) (I : Nat → Int → Int) (L : Nat → Int → Int64) : am_go0 cl 138 24 ls (.inr (.inr (some 53)) :: st) (am_GS N, am_GR, I, L) = am_go0 cl 138 27 ls (.inr (.inr (some 56)) :: st) (am_GS N, am_GR, I, L) := am_rG2 am_m138 d_138_24 am_f9020 rfl (gs_53 N) (by decide) gr_53_4 rfl
theorem d_138_27 : am_code 138 27 = some (.iload 4, 2) := by decide +kernel
theorem s_138_27 (cl : am_C) (a0 a1 a2 a3 : Option am_V) (x : Int) (st : List am_V) (h : am_H) : am_go0 cl 138 27 [a0, a1, a2, a3, some (.inl x)] st h = am_go0 cl 138 29 [a0, a1, a2, a3, some (.inl x)] (.inl x :: st) h := am_r am_m138 d_138_27 rfl
theorem d_138_29 : am_code 138 29 = some (.iaload, 1) := by decide +kernel
theorem s_138_29 (cl : am_C) (ls : am_Ls) (i : Int) (k : Nat) (st : List am_V) (N : Nat) (I : Nat → Int → Int) (L : Nat → Int → Int64) : am_go0 cl 138 29 ls (.inl i :: .inr (.inr (some k)) :: st) (am_GS N, am_GR, I, L) = if am_inb (am_GS N) k 0 i = true then am_go0 cl 138 30 ls (.inl (I k i) :: st) (am_GS N, am_GR, I, L) else none := am_rA am_m138 d_138_29 (by decide) rfl k ls st i _ _ I L
theorem d_138_30 : am_code 138 30 = some (.iload_n 2, 1) := by decide +kernel
theorem s_138_30 (cl : am_C) (a0 a1 a3 a4 : Option am_V) (x : Int) (st : List am_V) (h : am_H) : am_go0 cl 138 30 [a0, a1, some (.inl x), a3, a4] st h = am_go0 cl 138 31 [a0, a1, some (.inl x), a3, a4] (.inl x :: st) h := am_r am_m138 d_138_30 rfl
theorem d_138_31 : am_code 138 31 = some (.if_icmp .ne 17, 3) := by decide +kernel
theorem s_138_31 (cl : am_C) (ls : am_Ls) (x y : Int) (st : List am_V) (h : am_H) : am_go0 cl 138 31 ls (.inl y :: .inl x :: st) h = if x = y then am_go0 cl 138 34 ls st h else am_go0 cl 138 48 ls st h := (am_rJ0 am_m138 d_138_31 (by decide) rfl x y ls st h).trans (am_ifF ((am_cmp_ne x y).trans Iff.rfl) _ _)
theorem d_138_34 : am_code 138 34 = some (.aload_n 0, 1) := by decide +kernel
theorem s_138_34 (cl : am_C) (a1 a2 a3 a4 : Option am_V) (x : Nat) (st : List am_V) (h : am_H) : am_go0 cl 138 34 [some (.inr (.inr (some x))), a1, a2, a3, a4] st h = am_go0 cl 138 35 [some (.inr (.inr (some x))), a1, a2, a3, a4] (.inr (.inr (some x)) :: st) h := am_r am_m138 d_138_34 rfl
theorem d_138_35 : am_code 138 35 = some (.getfield 23, 3) := by decide +kernel
theorem s_138_35 (cl : am_C) (ls : am_Ls) (st : List am_V) (N : Nat) (I : Nat → Int → Int) (L : Nat → Int → Int64) : am_go0 cl 138 35 ls (.inr (.inr (some 53)) :: st) (am_GS N, am_GR, I, L) = am_go0 cl 138 38 ls (.inr (.inr (some 57)) :: st) (am_GS N, am_GR, I, L) := am_rG2 am_m138 d_138_35 am_f9023 rfl (gs_53 N) (by decide) gr_53_5 rfl
theorem d_138_38 : am_code 138 38 = some (.iload 4, 2) := by decide +kernel
theorem s_138_38 (cl : am_C) (a0 a1 a2 a3 : Option am_V) (x : Int) (st : List am_V) (h : am_H) : am_go0 cl 138 38 [a0, a1, a2, a3, some (.inl x)] st h = am_go0 cl 138 40 [a0, a1, a2, a3, some (.inl x)] (.inl x :: st) h := am_r am_m138 d_138_38 rfl
theorem d_138_40 : am_code 138 40 = some (.iaload, 1) := by decide +kernel
theorem s_138_40 (cl : am_C) (ls : am_Ls) (i : Int) (k : Nat) (st : List am_V) (N : Nat) (I : Nat → Int → Int) (L : Nat → Int → Int64) : am_go0 cl 138 40 ls (.inl i :: .inr (.inr (some k)) :: st) (am_GS N, am_GR, I, L) = if am_inb (am_GS N) k 0 i = true then am_go0 cl 138 41 ls (.inl (I k i) :: st) (am_GS N, am_GR, I, L) else none := am_rA am_m138 d_138_40 (by decide) rfl k ls st i _ _ I L
theorem d_138_41 : am_code 138 41 = some (.iload_n 3, 1) := by decide +kernel
theorem s_138_41 (cl : am_C) (a0 a1 a2 a4 : Option am_V) (x : Int) (st : List am_V) (h : am_H) : am_go0 cl 138 41 [a0, a1, a2, some (.inl x), a4] st h = am_go0 cl 138 42 [a0, a1, a2, some (.inl x), a4] (.inl x :: st) h := am_r am_m138 d_138_41 rfl
theorem d_138_42 : am_code 138 42 = some (.if_icmp .ne 6, 3) := by decide +kernel
theorem s_138_42 (cl : am_C) (ls : am_Ls) (x y : Int) (st : List am_V) (h : am_H) : am_go0 cl 138 42 ls (.inl y :: .inl x :: st) h = if x = y then am_go0 cl 138 45 ls st h else am_go0 cl 138 48 ls st h := (am_rJ0 am_m138 d_138_42 (by decide) rfl x y ls st h).trans (am_ifF ((am_cmp_ne x y).trans Iff.rfl) _ _)
theorem d_138_45 : am_code 138 45 = some (.iload 4, 2) := by decide +kernel
theorem s_138_45 (cl : am_C) (a0 a1 a2 a3 : Option am_V) (x : Int) (st : List am_V) (h : am_H) : am_go0 cl 138 45 [a0, a1, a2, a3, some (.inl x)] st h = am_go0 cl 138 47 [a0, a1, a2, a3, some (.inl x)] (.inl x :: st) h := am_r am_m138 d_138_45 rfl
theorem d_138_47 : am_code 138 47 = some (.ireturn, 1) := by decide +kernel
theorem s_138_47 (cl : am_C) (ls : am_Ls) (x : Int) (h : am_H) : am_go0 cl 138 47 ls [.inl x] h = some (some (.inl x), h) := am_rE am_m138 d_138_47 rfl
theorem d_138_48 : am_code 138 48 = some (.iinc 4 1, 3) := by decide +kernel
theorem s_138_48 (cl : am_C) (a0 a1 a2 a3 : Option am_V) (x : Int) (st : List am_V) (h : am_H) : am_go0 cl 138 48 [a0, a1, a2, a3, some (.inl x)] st h = am_go0 cl 138 51 [a0, a1, a2, am_c1 a3, some (.inl (am_wr (x + 1)))] st h := am_r am_m138 d_138_48 rfl
theorem d_138_51 : am_code 138 51 = some (.goto (-48), 3) := by decide +kernel
theorem s_138_51 (cl : am_C) (ls : am_Ls) (st : List am_V) (h : am_H) : am_go0 cl 138 51 ls st h = am_go0 cl 138 3 ls st h := am_rGo am_m138 d_138_51 (by decide) _ _ _
theorem d_138_54 : am_code 138 54 = some (.aload_n 0, 1) := by decide +kernel
theorem s_138_54 (cl : am_C) (a1 a2 a3 a4 : Option am_V) (x : Nat) (st : List am_V) (h : am_H) : am_go0 cl 138 54 [some (.inr (.inr (some x))), a1, a2, a3, a4] st h = am_go0 cl 138 55 [some (.inr (.inr (some x))), a1, a2, a3, a4] (.inr (.inr (some x)) :: st) h := am_r am_m138 d_138_54 rfl
theorem d_138_55 : am_code 138 55 = some (.getfield 13, 3) := by decide +kernel
theorem s_138_55 (cl : am_C) (ls : am_Ls) (st : List am_V) (N : Nat) (I : Nat → Int → Int) (L : Nat → Int → Int64) : am_go0 cl 138 55 ls (.inr (.inr (some 53)) :: st) (am_GS N, am_GR, I, L) = am_go0 cl 138 58 ls (.inl (I 53 2) :: st) (am_GS N, am_GR, I, L) := am_rG0 am_m138 d_138_55 am_f9013 rfl (gs_53 N) (by decide) rfl
theorem d_138_58 : am_code 138 58 = some (.bipush 80, 2) := by decide +kernel
theorem s_138_58 (cl : am_C) (ls : am_Ls) (st : List am_V) (h : am_H) : am_go0 cl 138 58 ls st h = am_go0 cl 138 60 ls (.inl 80 :: st) h := am_rB am_m138 d_138_58 (by decide) rfl _ _ _
theorem d_138_60 : am_code 138 60 = some (.if_icmp .ne 6, 3) := by decide +kernel
theorem s_138_60 (cl : am_C) (ls : am_Ls) (x y : Int) (st : List am_V) (h : am_H) : am_go0 cl 138 60 ls (.inl y :: .inl x :: st) h = if x = y then am_go0 cl 138 63 ls st h else am_go0 cl 138 66 ls st h := (am_rJ0 am_m138 d_138_60 (by decide) rfl x y ls st h).trans (am_ifF ((am_cmp_ne x y).trans Iff.rfl) _ _)
theorem d_138_63 : am_code 138 63 = some (.bipush (-3), 2) := by decide +kernel
theorem s_138_63 (cl : am_C) (ls : am_Ls) (st : List am_V) (h : am_H) : am_go0 cl 138 63 ls st h = am_go0 cl 138 65 ls (.inl (-3) :: st) h := am_rB am_m138 d_138_63 (by decide) rfl _ _ _
theorem d_138_65 : am_code 138 65 = some (.ireturn, 1) := by decide +kernel
theorem s_138_65 (cl : am_C) (ls : am_Ls) (x : Int) (h : am_H) : am_go0 cl 138 65 ls [.inl x] h = some (some (.inl x), h) := am_rE am_m138 d_138_65 rfl
theorem d_138_66 : am_code 138 66 = some (.aload_n 0, 1) := by decide +kernel
theorem s_138_66 (cl : am_C) (a1 a2 a3 a4 : Option am_V) (x : Nat) (st : List am_V) (h : am_H) : am_go0 cl 138 66 [some (.inr (.inr (some x))), a1, a2, a3, a4] st h = am_go0 cl 138 67 [some (.inr (.inr (some x))), a1, a2, a3, a4] (.inr (.inr (some x)) :: st) h := am_r am_m138 d_138_66 rfl
theorem d_138_67 : am_code 138 67 = some (.getfield 17, 3) := by decide +kernel
theorem s_138_67 (cl : am_C) (ls : am_Ls) (st : List am_V) (N : Nat) (I : Nat → Int → Int) (L : Nat → Int → Int64) : am_go0 cl 138 67 ls (.inr (.inr (some 53)) :: st) (am_GS N, am_GR, I, L) = am_go0 cl 138 70 ls (.inr (.inr (some 55)) :: st) (am_GS N, am_GR, I, L) := am_rG2 am_m138 d_138_67 am_f9017 rfl (gs_53 N) (by decide) gr_53_3 rfl
theorem d_138_70 : am_code 138 70 = some (.aload_n 0, 1) := by decide +kernel
theorem s_138_70 (cl : am_C) (a1 a2 a3 a4 : Option am_V) (x : Nat) (st : List am_V) (h : am_H) : am_go0 cl 138 70 [some (.inr (.inr (some x))), a1, a2, a3, a4] st h = am_go0 cl 138 71 [some (.inr (.inr (some x))), a1, a2, a3, a4] (.inr (.inr (some x)) :: st) h := am_r am_m138 d_138_70 rfl
theorem d_138_71 : am_code 138 71 = some (.getfield 13, 3) := by decide +kernel
theorem s_138_71 (cl : am_C) (ls : am_Ls) (st : List am_V) (N : Nat) (I : Nat → Int → Int) (L : Nat → Int → Int64) : am_go0 cl 138 71 ls (.inr (.inr (some 53)) :: st) (am_GS N, am_GR, I, L) = am_go0 cl 138 74 ls (.inl (I 53 2) :: st) (am_GS N, am_GR, I, L) := am_rG0 am_m138 d_138_71 am_f9013 rfl (gs_53 N) (by decide) rfl
theorem d_138_74 : am_code 138 74 = some (.iload_n 1, 1) := by decide +kernel
theorem s_138_74 (cl : am_C) (a0 a2 a3 a4 : Option am_V) (x : Int) (st : List am_V) (h : am_H) : am_go0 cl 138 74 [a0, some (.inl x), a2, a3, a4] st h = am_go0 cl 138 75 [a0, some (.inl x), a2, a3, a4] (.inl x :: st) h := am_r am_m138 d_138_74 rfl
theorem d_138_75 : am_code 138 75 = some (.iastore, 1) := by decide +kernel
theorem s_138_75 (cl : am_C) (ls : am_Ls) (i : Int) (v : Int) (k : Nat) (st : List am_V) (N : Nat) (I : Nat → Int → Int) (L : Nat → Int → Int64) : am_go0 cl 138 75 ls (.inl v :: .inl i :: .inr (.inr (some k)) :: st) (am_GS N, am_GR, I, L) = if am_inb (am_GS N) k 0 i = true then am_go0 cl 138 76 ls st (am_GS N, am_GR, am_uI I k i v, L) else none := am_rS am_m138 d_138_75 rfl k ls st i v _ _ I L
theorem d_138_76 : am_code 138 76 = some (.aload_n 0, 1) := by decide +kernel
theorem s_138_76 (cl : am_C) (a1 a2 a3 a4 : Option am_V) (x : Nat) (st : List am_V) (h : am_H) : am_go0 cl 138 76 [some (.inr (.inr (some x))), a1, a2, a3, a4] st h = am_go0 cl 138 77 [some (.inr (.inr (some x))), a1, a2, a3, a4] (.inr (.inr (some x)) :: st) h := am_r am_m138 d_138_76 rfl
theorem d_138_77 : am_code 138 77 = some (.getfield 20, 3) := by decide +kernel
theorem s_138_77 (cl : am_C) (ls : am_Ls) (st : List am_V) (N : Nat) (I : Nat → Int → Int) (L : Nat → Int → Int64) : am_go0 cl 138 77 ls (.inr (.inr (some 53)) :: st) (am_GS N, am_GR, I, L) = am_go0 cl 138 80 ls (.inr (.inr (some 56)) :: st) (am_GS N, am_GR, I, L) := am_rG2 am_m138 d_138_77 am_f9020 rfl (gs_53 N) (by decide) gr_53_4 rfl
theorem d_138_80 : am_code 138 80 = some (.aload_n 0, 1) := by decide +kernel
theorem s_138_80 (cl : am_C) (a1 a2 a3 a4 : Option am_V) (x : Nat) (st : List am_V) (h : am_H) : am_go0 cl 138 80 [some (.inr (.inr (some x))), a1, a2, a3, a4] st h = am_go0 cl 138 81 [some (.inr (.inr (some x))), a1, a2, a3, a4] (.inr (.inr (some x)) :: st) h := am_r am_m138 d_138_80 rfl
theorem d_138_81 : am_code 138 81 = some (.getfield 13, 3) := by decide +kernel
theorem s_138_81 (cl : am_C) (ls : am_Ls) (st : List am_V) (N : Nat) (I : Nat → Int → Int) (L : Nat → Int → Int64) : am_go0 cl 138 81 ls (.inr (.inr (some 53)) :: st) (am_GS N, am_GR, I, L) = am_go0 cl 138 84 ls (.inl (I 53 2) :: st) (am_GS N, am_GR, I, L) := am_rG0 am_m138 d_138_81 am_f9013 rfl (gs_53 N) (by decide) rfl
theorem d_138_84 : am_code 138 84 = some (.iload_n 2, 1) := by decide +kernel
theorem s_138_84 (cl : am_C) (a0 a1 a3 a4 : Option am_V) (x : Int) (st : List am_V) (h : am_H) : am_go0 cl 138 84 [a0, a1, some (.inl x), a3, a4] st h = am_go0 cl 138 85 [a0, a1, some (.inl x), a3, a4] (.inl x :: st) h := am_r am_m138 d_138_84 rfl
theorem d_138_85 : am_code 138 85 = some (.iastore, 1) := by decide +kernel
theorem s_138_85 (cl : am_C) (ls : am_Ls) (i : Int) (v : Int) (k : Nat) (st : List am_V) (N : Nat) (I : Nat → Int → Int) (L : Nat → Int → Int64) : am_go0 cl 138 85 ls (.inl v :: .inl i :: .inr (.inr (some k)) :: st) (am_GS N, am_GR, I, L) = if am_inb (am_GS N) k 0 i = true then am_go0 cl 138 86 ls st (am_GS N, am_GR, am_uI I k i v, L) else none := am_rS am_m138 d_138_85 rfl k ls st i v _ _ I L
theorem d_138_86 : am_code 138 86 = some (.aload_n 0, 1) := by decide +kernel
theorem s_138_86 (cl : am_C) (a1 a2 a3 a4 : Option am_V) (x : Nat) (st : List am_V) (h : am_H) : am_go0 cl 138 86 [some (.inr (.inr (some x))), a1, a2, a3, a4] st h = am_go0 cl 138 87 [some (.inr (.inr (some x))), a1, a2, a3, a4] (.inr (.inr (some x)) :: st) h := am_r am_m138 d_138_86 rfl
theorem d_138_87 : am_code 138 87 = some (.getfield 23, 3) := by decide +kernel
theorem s_138_87 (cl : am_C) (ls : am_Ls) (st : List am_V) (N : Nat) (I : Nat → Int → Int) (L : Nat → Int → Int64) : am_go0 cl 138 87 ls (.inr (.inr (some 53)) :: st) (am_GS N, am_GR, I, L) = am_go0 cl 138 90 ls (.inr (.inr (some 57)) :: st) (am_GS N, am_GR, I, L) := am_rG2 am_m138 d_138_87 am_f9023 rfl (gs_53 N) (by decide) gr_53_5 rfl
theorem d_138_90 : am_code 138 90 = some (.aload_n 0, 1) := by decide +kernel
theorem s_138_90 (cl : am_C) (a1 a2 a3 a4 : Option am_V) (x : Nat) (st : List am_V) (h : am_H) : am_go0 cl 138 90 [some (.inr (.inr (some x))), a1, a2, a3, a4] st h = am_go0 cl 138 91 [some (.inr (.inr (some x))), a1, a2, a3, a4] (.inr (.inr (some x)) :: st) h := am_r am_m138 d_138_90 rfl
theorem d_138_91 : am_code 138 91 = some (.getfield 13, 3) := by decide +kernel
theorem s_138_91 (cl : am_C) (ls : am_Ls) (st : List am_V) (N : Nat) (I : Nat → Int → Int) (L : Nat → Int → Int64) : am_go0 cl 138 91 ls (.inr (.inr (some 53)) :: st) (am_GS N, am_GR, I, L) = am_go0 cl 138 94 ls (.inl (I 53 2) :: st) (am_GS N, am_GR, I, L) := am_rG0 am_m138 d_138_91 am_f9013 rfl (gs_53 N) (by decide) rfl
theorem d_138_94 : am_code 138 94 = some (.iload_n 3, 1) := by decide +kernel
theorem s_138_94 (cl : am_C) (a0 a1 a2 a4 : Option am_V) (x : Int) (st : List am_V) (h : am_H) : am_go0 cl 138 94 [a0, a1, a2, some (.inl x), a4] st h = am_go0 cl 138 95 [a0, a1, a2, some (.inl x), a4] (.inl x :: st) h := am_r am_m138 d_138_94 rfl
theorem d_138_95 : am_code 138 95 = some (.iastore, 1) := by decide +kernel
theorem s_138_95 (cl : am_C) (ls : am_Ls) (i : Int) (v : Int) (k : Nat) (st : List am_V) (N : Nat) (I : Nat → Int → Int) (L : Nat → Int → Int64) : am_go0 cl 138 95 ls (.inl v :: .inl i :: .inr (.inr (some k)) :: st) (am_GS N, am_GR, I, L) = if am_inb (am_GS N) k 0 i = true then am_go0 cl 138 96 ls st (am_GS N, am_GR, am_uI I k i v, L) else none := am_rS am_m138 d_138_95 rfl k ls st i v _ _ I L
theorem d_138_96 : am_code 138 96 = some (.aload_n 0, 1) := by decide +kernel
theorem s_138_96 (cl : am_C) (a1 a2 a3 a4 : Option am_V) (x : Nat) (st : List am_V) (h : am_H) : am_go0 cl 138 96 [some (.inr (.inr (some x))), a1, a2, a3, a4] st h = am_go0 cl 138 97 [some (.inr (.inr (some x))), a1, a2, a3, a4] (.inr (.inr (some x)) :: st) h := am_r am_m138 d_138_96 rfl
theorem d_138_97 : am_code 138 97 = some (.getfield 26, 3) := by decide +kernel
theorem s_138_97 (cl : am_C) (ls : am_Ls) (st : List am_V) (N : Nat) (I : Nat → Int → Int) (L : Nat → Int → Int64) : am_go0 cl 138 97 ls (.inr (.inr (some 53)) :: st) (am_GS N, am_GR, I, L) = am_go0 cl 138 100 ls (.inr (.inr (some 58)) :: st) (am_GS N, am_GR, I, L) := am_rG2 am_m138 d_138_97 am_f9026 rfl (gs_53 N) (by decide) gr_53_6 rfl
theorem d_138_100 : am_code 138 100 = some (.aload_n 0, 1) := by decide +kernel
theorem s_138_100 (cl : am_C) (a1 a2 a3 a4 : Option am_V) (x : Nat) (st : List am_V) (h : am_H) : am_go0 cl 138 100 [some (.inr (.inr (some x))), a1, a2, a3, a4] st h = am_go0 cl 138 101 [some (.inr (.inr (some x))), a1, a2, a3, a4] (.inr (.inr (some x)) :: st) h := am_r am_m138 d_138_100 rfl
theorem d_138_101 : am_code 138 101 = some (.getfield 13, 3) := by decide +kernel
theorem s_138_101 (cl : am_C) (ls : am_Ls) (st : List am_V) (N : Nat) (I : Nat → Int → Int) (L : Nat → Int → Int64) : am_go0 cl 138 101 ls (.inr (.inr (some 53)) :: st) (am_GS N, am_GR, I, L) = am_go0 cl 138 104 ls (.inl (I 53 2) :: st) (am_GS N, am_GR, I, L) := am_rG0 am_m138 d_138_101 am_f9013 rfl (gs_53 N) (by decide) rfl
theorem d_138_104 : am_code 138 104 = some (.iload_n 2, 1) := by decide +kernel
theorem s_138_104 (cl : am_C) (a0 a1 a3 a4 : Option am_V) (x : Int) (st : List am_V) (h : am_H) : am_go0 cl 138 104 [a0, a1, some (.inl x), a3, a4] st h = am_go0 cl 138 105 [a0, a1, some (.inl x), a3, a4] (.inl x :: st) h := am_r am_m138 d_138_104 rfl
theorem d_138_105 : am_code 138 105 = some (.ifCond .ge 7, 3) := by decide +kernel
theorem s_138_105 (cl : am_C) (ls : am_Ls) (x : Int) (st : List am_V) (h : am_H) : am_go0 cl 138 105 ls (.inl x :: st) h = if x < 0 then am_go0 cl 138 108 ls st h else am_go0 cl 138 112 ls st h := (am_rJ1 am_m138 d_138_105 (by decide) rfl x ls st h).trans (am_ifF ((am_cmp_ge x 0).trans Int.not_lt.symm) _ _)
theorem d_138_108 : am_code 138 108 = some (.iconst 0, 1) := by decide +kernel
theorem s_138_108 (cl : am_C) (ls : am_Ls) (st : List am_V) (h : am_H) : am_go0 cl 138 108 ls st h = am_go0 cl 138 109 ls (.inl 0 :: st) h := am_rK am_m138 d_138_108 (by decide) rfl _ _ _
theorem d_138_109 : am_code 138 109 = some (.goto 9, 3) := by decide +kernel
theorem s_138_109 (cl : am_C) (ls : am_Ls) (st : List am_V) (h : am_H) : am_go0 cl 138 109 ls st h = am_go0 cl 138 118 ls st h := am_rGo am_m138 d_138_109 (by decide) _ _ _
theorem d_138_112 : am_code 138 112 = some (.aload_n 0, 1) := by decide +kernel
theorem s_138_112 (cl : am_C) (a1 a2 a3 a4 : Option am_V) (x : Nat) (st : List am_V) (h : am_H) : am_go0 cl 138 112 [some (.inr (.inr (some x))), a1, a2, a3, a4] st h = am_go0 cl 138 113 [some (.inr (.inr (some x))), a1, a2, a3, a4] (.inr (.inr (some x)) :: st) h := am_r am_m138 d_138_112 rfl
theorem d_138_113 : am_code 138 113 = some (.getfield 26, 3) := by decide +kernel
theorem s_138_113 (cl : am_C) (ls : am_Ls) (st : List am_V) (N : Nat) (I : Nat → Int → Int) (L : Nat → Int → Int64) : am_go0 cl 138 113 ls (.inr (.inr (some 53)) :: st) (am_GS N, am_GR, I, L) = am_go0 cl 138 116 ls (.inr (.inr (some 58)) :: st) (am_GS N, am_GR, I, L) := am_rG2 am_m138 d_138_113 am_f9026 rfl (gs_53 N) (by decide) gr_53_6 rfl
theorem d_138_116 : am_code 138 116 = some (.iload_n 2, 1) := by decide +kernel
theorem s_138_116 (cl : am_C) (a0 a1 a3 a4 : Option am_V) (x : Int) (st : List am_V) (h : am_H) : am_go0 cl 138 116 [a0, a1, some (.inl x), a3, a4] st h = am_go0 cl 138 117 [a0, a1, some (.inl x), a3, a4] (.inl x :: st) h := am_r am_m138 d_138_116 rfl
theorem d_138_117 : am_code 138 117 = some (.iaload, 1) := by decide +kernel
theorem s_138_117 (cl : am_C) (ls : am_Ls) (i : Int) (k : Nat) (st : List am_V) (N : Nat) (I : Nat → Int → Int) (L : Nat → Int → Int64) : am_go0 cl 138 117 ls (.inl i :: .inr (.inr (some k)) :: st) (am_GS N, am_GR, I, L) = if am_inb (am_GS N) k 0 i = true then am_go0 cl 138 118 ls (.inl (I k i) :: st) (am_GS N, am_GR, I, L) else none := am_rA am_m138 d_138_117 (by decide) rfl k ls st i _ _ I L
theorem d_138_118 : am_code 138 118 = some (.iload_n 3, 1) := by decide +kernel
theorem s_138_118 (cl : am_C) (a0 a1 a2 a4 : Option am_V) (x : Int) (st : List am_V) (h : am_H) : am_go0 cl 138 118 [a0, a1, a2, some (.inl x), a4] st h = am_go0 cl 138 119 [a0, a1, a2, some (.inl x), a4] (.inl x :: st) h := am_r am_m138 d_138_118 rfl
theorem d_138_119 : am_code 138 119 = some (.ifCond .ge 7, 3) := by decide +kernel
theorem s_138_119 (cl : am_C) (ls : am_Ls) (x : Int) (st : List am_V) (h : am_H) : am_go0 cl 138 119 ls (.inl x :: st) h = if x < 0 then am_go0 cl 138 122 ls st h else am_go0 cl 138 126 ls st h := (am_rJ1 am_m138 d_138_119 (by decide) rfl x ls st h).trans (am_ifF ((am_cmp_ge x 0).trans Int.not_lt.symm) _ _)
theorem d_138_122 : am_code 138 122 = some (.iconst 0, 1) := by decide +kernel
theorem s_138_122 (cl : am_C) (ls : am_Ls) (st : List am_V) (h : am_H) : am_go0 cl 138 122 ls st h = am_go0 cl 138 123 ls (.inl 0 :: st) h := am_rK am_m138 d_138_122 (by decide) rfl _ _ _
theorem d_138_123 : am_code 138 123 = some (.goto 9, 3) := by decide +kernel
theorem s_138_123 (cl : am_C) (ls : am_Ls) (st : List am_V) (h : am_H) : am_go0 cl 138 123 ls st h = am_go0 cl 138 132 ls st h := am_rGo am_m138 d_138_123 (by decide) _ _ _
theorem d_138_126 : am_code 138 126 = some (.aload_n 0, 1) := by decide +kernel
theorem s_138_126 (cl : am_C) (a1 a2 a3 a4 : Option am_V) (x : Nat) (st : List am_V) (h : am_H) : am_go0 cl 138 126 [some (.inr (.inr (some x))), a1, a2, a3, a4] st h = am_go0 cl 138 127 [some (.inr (.inr (some x))), a1, a2, a3, a4] (.inr (.inr (some x)) :: st) h := am_r am_m138 d_138_126 rfl
theorem d_138_127 : am_code 138 127 = some (.getfield 26, 3) := by decide +kernel
theorem s_138_127 (cl : am_C) (ls : am_Ls) (st : List am_V) (N : Nat) (I : Nat → Int → Int) (L : Nat → Int → Int64) : am_go0 cl 138 127 ls (.inr (.inr (some 53)) :: st) (am_GS N, am_GR, I, L) = am_go0 cl 138 130 ls (.inr (.inr (some 58)) :: st) (am_GS N, am_GR, I, L) := am_rG2 am_m138 d_138_127 am_f9026 rfl (gs_53 N) (by decide) gr_53_6 rfl
theorem d_138_130 : am_code 138 130 = some (.iload_n 3, 1) := by decide +kernel
theorem s_138_130 (cl : am_C) (a0 a1 a2 a4 : Option am_V) (x : Int) (st : List am_V) (h : am_H) : am_go0 cl 138 130 [a0, a1, a2, some (.inl x), a4] st h = am_go0 cl 138 131 [a0, a1, a2, some (.inl x), a4] (.inl x :: st) h := am_r am_m138 d_138_130 rfl
theorem d_138_131 : am_code 138 131 = some (.iaload, 1) := by decide +kernel
theorem s_138_131 (cl : am_C) (ls : am_Ls) (i : Int) (k : Nat) (st : List am_V) (N : Nat) (I : Nat → Int → Int) (L : Nat → Int → Int64) : am_go0 cl 138 131 ls (.inl i :: .inr (.inr (some k)) :: st) (am_GS N, am_GR, I, L) = if am_inb (am_GS N) k 0 i = true then am_go0 cl 138 132 ls (.inl (I k i) :: st) (am_GS N, am_GR, I, L) else none := am_rA am_m138 d_138_131 (by decide) rfl k ls st i _ _ I L
theorem d_138_132 : am_code 138 132 = some (.ior, 1) := by decide +kernel
theorem s_138_132 (cl : am_C) (ls : am_Ls) (x y : Int) (st : List am_V) (h : am_H) : am_go0 cl 138 132 ls (.inl y :: .inl x :: st) h = am_go0 cl 138 133 ls (.inl ((Int32.ofInt x ||| Int32.ofInt y).toInt) :: st) h := am_r am_m138 d_138_132 rfl
theorem d_138_133 : am_code 138 133 = some (.iastore, 1) := by decide +kernel
theorem s_138_133 (cl : am_C) (ls : am_Ls) (i : Int) (v : Int) (k : Nat) (st : List am_V) (N : Nat) (I : Nat → Int → Int) (L : Nat → Int → Int64) : am_go0 cl 138 133 ls (.inl v :: .inl i :: .inr (.inr (some k)) :: st) (am_GS N, am_GR, I, L) = if am_inb (am_GS N) k 0 i = true then am_go0 cl 138 134 ls st (am_GS N, am_GR, am_uI I k i v, L) else none := am_rS am_m138 d_138_133 rfl k ls st i v _ _ I L
theorem d_138_134 : am_code 138 134 = some (.aload_n 0, 1) := by decide +kernel
theorem s_138_134 (cl : am_C) (a1 a2 a3 a4 : Option am_V) (x : Nat) (st : List am_V) (h : am_H) : am_go0 cl 138 134 [some (.inr (.inr (some x))), a1, a2, a3, a4] st h = am_go0 cl 138 135 [some (.inr (.inr (some x))), a1, a2, a3, a4] (.inr (.inr (some x)) :: st) h := am_r am_m138 d_138_134 rfl
theorem d_138_135 : am_code 138 135 = some (.dup, 1) := by decide +kernel
theorem s_138_135 (cl : am_C) (ls : am_Ls) (x : Nat) (st : List am_V) (h : am_H) : am_go0 cl 138 135 ls (.inr (.inr (some x)) :: st) h = am_go0 cl 138 136 ls (.inr (.inr (some x)) :: .inr (.inr (some x)) :: st) h := am_r am_m138 d_138_135 rfl
theorem d_138_136 : am_code 138 136 = some (.getfield 13, 3) := by decide +kernel
theorem s_138_136 (cl : am_C) (ls : am_Ls) (st : List am_V) (N : Nat) (I : Nat → Int → Int) (L : Nat → Int → Int64) : am_go0 cl 138 136 ls (.inr (.inr (some 53)) :: st) (am_GS N, am_GR, I, L) = am_go0 cl 138 139 ls (.inl (I 53 2) :: st) (am_GS N, am_GR, I, L) := am_rG0 am_m138 d_138_136 am_f9013 rfl (gs_53 N) (by decide) rfl
theorem d_138_139 : am_code 138 139 = some (.iconst 1, 1) := by decide +kernel
theorem s_138_139 (cl : am_C) (ls : am_Ls) (st : List am_V) (h : am_H) : am_go0 cl 138 139 ls st h = am_go0 cl 138 140 ls (.inl 1 :: st) h := am_rK am_m138 d_138_139 (by decide) rfl _ _ _
theorem d_138_140 : am_code 138 140 = some (.iadd, 1) := by decide +kernel
theorem s_138_140 (cl : am_C) (ls : am_Ls) (x y : Int) (st : List am_V) (h : am_H) : am_go0 cl 138 140 ls (.inl y :: .inl x :: st) h = am_go0 cl 138 141 ls (.inl (am_wr (x + y)) :: st) h := am_r am_m138 d_138_140 rfl
theorem d_138_141 : am_code 138 141 = some (.putfield 13, 3) := by decide +kernel
theorem s_138_141 (cl : am_C) (ls : am_Ls) (v : Int) (st : List am_V) (N : Nat) (I : Nat → Int → Int) (L : Nat → Int → Int64) : am_go0 cl 138 141 ls (.inl v :: .inr (.inr (some 53)) :: st) (am_GS N, am_GR, I, L) = am_go0 cl 138 144 ls st (am_GS N, am_GR, am_uI I 53 2 v, L) := am_rP0 am_m138 d_138_141 am_f9013 rfl (gs_53 N) (by decide) rfl
theorem d_138_144 : am_code 138 144 = some (.aload_n 0, 1) := by decide +kernel
theorem s_138_144 (cl : am_C) (a1 a2 a3 a4 : Option am_V) (x : Nat) (st : List am_V) (h : am_H) : am_go0 cl 138 144 [some (.inr (.inr (some x))), a1, a2, a3, a4] st h = am_go0 cl 138 145 [some (.inr (.inr (some x))), a1, a2, a3, a4] (.inr (.inr (some x)) :: st) h := am_r am_m138 d_138_144 rfl
theorem d_138_145 : am_code 138 145 = some (.getfield 13, 3) := by decide +kernel
theorem s_138_145 (cl : am_C) (ls : am_Ls) (st : List am_V) (N : Nat) (I : Nat → Int → Int) (L : Nat → Int → Int64) : am_go0 cl 138 145 ls (.inr (.inr (some 53)) :: st) (am_GS N, am_GR, I, L) = am_go0 cl 138 148 ls (.inl (I 53 2) :: st) (am_GS N, am_GR, I, L) := am_rG0 am_m138 d_138_145 am_f9013 rfl (gs_53 N) (by decide) rfl
theorem d_138_148 : am_code 138 148 = some (.iconst 1, 1) := by decide +kernel
theorem s_138_148 (cl : am_C) (ls : am_Ls) (st : List am_V) (h : am_H) : am_go0 cl 138 148 ls st h = am_go0 cl 138 149 ls (.inl 1 :: st) h := am_rK am_m138 d_138_148 (by decide) rfl _ _ _
theorem d_138_149 : am_code 138 149 = some (.isub, 1) := by decide +kernel
theorem s_138_149 (cl : am_C) (ls : am_Ls) (x y : Int) (st : List am_V) (h : am_H) : am_go0 cl 138 149 ls (.inl y :: .inl x :: st) h = am_go0 cl 138 150 ls (.inl (am_wr (x - y)) :: st) h := am_r am_m138 d_138_149 rfl
theorem d_138_150 : am_code 138 150 = some (.ireturn, 1) := by decide +kernel
theorem s_138_150 (cl : am_C) (ls : am_Ls) (x : Int) (h : am_H) : am_go0 cl 138 150 ls [.inl x] h = some (some (.inl x), h) := am_rE am_m138 d_138_150 rfl
theorem e_138 (d : Nat) (t : Nat) (p0 : Int) (p1 : Int) (p2 : Int) (h : am_H) : am_call (d + 1) 138 [.inr (.inr (some t)), .inl p0, .inl p1, .inl p2] h = am_go0 (am_call d) 138 0 [some (.inr (.inr (some t))), some (.inl p0), some (.inl p1), some (.inl p2), none] [] h := am_callE am_m138 (Nat.le_of_ble_eq_true rfl) rfl
theorem d_139_0 : am_code 139 0 = some (.aload_n 0, 1) := by decide +kernel
theorem s_139_0 (cl : am_C) (a1 a2 : Option am_V) (x : Nat) (st : List am_V) (h : am_H) : am_go0 cl 139 0 [some (.inr (.inr (some x))), a1, a2] st h = am_go0 cl 139 1 [some (.inr (.inr (some x))), a1, a2] (.inr (.inr (some x)) :: st) h := am_r am_m139 d_139_0 rfl
theorem d_139_1 : am_code 139 1 = some (.iload_n 1, 1) := by decide +kernel
theorem s_139_1 (cl : am_C) (a0 a2 : Option am_V) (x : Int) (st : List am_V) (h : am_H) : am_go0 cl 139 1 [a0, some (.inl x), a2] st h = am_go0 cl 139 2 [a0, some (.inl x), a2] (.inl x :: st) h := am_r am_m139 d_139_1 rfl
theorem d_139_2 : am_code 139 2 = some (.invokevirtual 158, 3) := by decide +kernel
theorem s_139_2 (cl : am_C) (ls : am_Ls) (x0 : Int) (N : Nat) (I : Nat → Int → Int) (L : Nat → Int → Int64) : am_go0 cl 139 2 ls [.inl x0, .inr (.inr (some 53))] (am_GS N, am_GR, I, L) = am_bd (cl 137 [.inr (.inr (some 53)), .inl x0] (am_GS N, am_GR, I, L)) (fun v h2 => am_go0 cl 139 5 ls (v.toList ++ []) h2) := am_rV am_m139 d_139_2 am_k9158 rfl am_m137 (gs_53 N) (by decide) (Nat.le_of_ble_eq_true rfl) rfl ls
theorem d_139_5 : am_code 139 5 = some (.ifCond .eq 12, 3) := by decide +kernel
theorem s_139_5 (cl : am_C) (ls : am_Ls) (x : Int) (st : List am_V) (h : am_H) : am_go0 cl 139 5 ls (.inl x :: st) h = if x = 0 then am_go0 cl 139 17 ls st h else am_go0 cl 139 8 ls st h := (am_rJ1 am_m139 d_139_5 (by decide) rfl x ls st h).trans (am_ifT (am_cmp_eq x 0) _ _)
theorem d_139_8 : am_code 139 8 = some (.iload_n 2, 1) := by decide +kernel
theorem s_139_8 (cl : am_C) (a0 a1 : Option am_V) (x : Int) (st : List am_V) (h : am_H) : am_go0 cl 139 8 [a0, a1, some (.inl x)] st h = am_go0 cl 139 9 [a0, a1, some (.inl x)] (.inl x :: st) h := am_r am_m139 d_139_8 rfl
theorem d_139_9 : am_code 139 9 = some (.iconst 0, 1) := by decide +kernel
theorem s_139_9 (cl : am_C) (ls : am_Ls) (st : List am_V) (h : am_H) : am_go0 cl 139 9 ls st h = am_go0 cl 139 10 ls (.inl 0 :: st) h := am_rK am_m139 d_139_9 (by decide) rfl _ _ _
theorem d_139_10 : am_code 139 10 = some (.iconst 3, 1) := by decide +kernel
theorem s_139_10 (cl : am_C) (ls : am_Ls) (st : List am_V) (h : am_H) : am_go0 cl 139 10 ls st h = am_go0 cl 139 11 ls (.inl 3 :: st) h := am_rK am_m139 d_139_10 (by decide) rfl _ _ _
theorem d_139_11 : am_code 139 11 = some (.invokestatic 151, 3) := by decide +kernel
theorem s_139_11 (cl : am_C) (ls : am_Ls) (x0 : Int) (x1 : Int) (x2 : Int) (h : am_H) : am_go0 cl 139 11 ls [.inl x2, .inl x1, .inl x0] h = am_bd (cl 135 [.inl x0, .inl x1, .inl x2] h) (fun v h2 => am_go0 cl 139 14 ls (v.toList ++ []) h2) := am_rVs am_m139 d_139_11 am_k9151 rfl (Nat.le_of_ble_eq_true rfl) rfl ls
theorem d_139_14 : am_code 139 14 = some (.ifCond .ne 6, 3) := by decide +kernel
theorem s_139_14 (cl : am_C) (ls : am_Ls) (x : Int) (st : List am_V) (h : am_H) : am_go0 cl 139 14 ls (.inl x :: st) h = if x = 0 then am_go0 cl 139 17 ls st h else am_go0 cl 139 20 ls st h := (am_rJ1 am_m139 d_139_14 (by decide) rfl x ls st h).trans (am_ifF ((am_cmp_ne x 0).trans Iff.rfl) _ _)
theorem d_139_17 : am_code 139 17 = some (.bipush (-2), 2) := by decide +kernel
theorem s_139_17 (cl : am_C) (ls : am_Ls) (st : List am_V) (h : am_H) : am_go0 cl 139 17 ls st h = am_go0 cl 139 19 ls (.inl (-2) :: st) h := am_rB am_m139 d_139_17 (by decide) rfl _ _ _
theorem d_139_19 : am_code 139 19 = some (.ireturn, 1) := by decide +kernel
theorem s_139_19 (cl : am_C) (ls : am_Ls) (x : Int) (h : am_H) : am_go0 cl 139 19 ls [.inl x] h = some (some (.inl x), h) := am_rE am_m139 d_139_19 rfl
theorem d_139_20 : am_code 139 20 = some (.iload_n 2, 1) := by decide +kernel
theorem s_139_20 (cl : am_C) (a0 a1 : Option am_V) (x : Int) (st : List am_V) (h : am_H) : am_go0 cl 139 20 [a0, a1, some (.inl x)] st h = am_go0 cl 139 21 [a0, a1, some (.inl x)] (.inl x :: st) h := am_r am_m139 d_139_20 rfl
theorem d_139_21 : am_code 139 21 = some (.ifCond .ne 12, 3) := by decide +kernel
theorem s_139_21 (cl : am_C) (ls : am_Ls) (x : Int) (st : List am_V) (h : am_H) : am_go0 cl 139 21 ls (.inl x :: st) h = if x = 0 then am_go0 cl 139 24 ls st h else am_go0 cl 139 33 ls st h := (am_rJ1 am_m139 d_139_21 (by decide) rfl x ls st h).trans (am_ifF ((am_cmp_ne x 0).trans Iff.rfl) _ _)
theorem d_139_24 : am_code 139 24 = some (.aload_n 0, 1) := by decide +kernel
theorem s_139_24 (cl : am_C) (a1 a2 : Option am_V) (x : Nat) (st : List am_V) (h : am_H) : am_go0 cl 139 24 [some (.inr (.inr (some x))), a1, a2] st h = am_go0 cl 139 25 [some (.inr (.inr (some x))), a1, a2] (.inr (.inr (some x)) :: st) h := am_r am_m139 d_139_24 rfl
theorem d_139_25 : am_code 139 25 = some (.getfield 17, 3) := by decide +kernel
theorem s_139_25 (cl : am_C) (ls : am_Ls) (st : List am_V) (N : Nat) (I : Nat → Int → Int) (L : Nat → Int → Int64) : am_go0 cl 139 25 ls (.inr (.inr (some 53)) :: st) (am_GS N, am_GR, I, L) = am_go0 cl 139 28 ls (.inr (.inr (some 55)) :: st) (am_GS N, am_GR, I, L) := am_rG2 am_m139 d_139_25 am_f9017 rfl (gs_53 N) (by decide) gr_53_3 rfl
theorem d_139_28 : am_code 139 28 = some (.iload_n 1, 1) := by decide +kernel
theorem s_139_28 (cl : am_C) (a0 a2 : Option am_V) (x : Int) (st : List am_V) (h : am_H) : am_go0 cl 139 28 [a0, some (.inl x), a2] st h = am_go0 cl 139 29 [a0, some (.inl x), a2] (.inl x :: st) h := am_r am_m139 d_139_28 rfl
theorem d_139_29 : am_code 139 29 = some (.iaload, 1) := by decide +kernel
theorem s_139_29 (cl : am_C) (ls : am_Ls) (i : Int) (k : Nat) (st : List am_V) (N : Nat) (I : Nat → Int → Int) (L : Nat → Int → Int64) : am_go0 cl 139 29 ls (.inl i :: .inr (.inr (some k)) :: st) (am_GS N, am_GR, I, L) = if am_inb (am_GS N) k 0 i = true then am_go0 cl 139 30 ls (.inl (I k i) :: st) (am_GS N, am_GR, I, L) else none := am_rA am_m139 d_139_29 (by decide) rfl k ls st i _ _ I L
theorem d_139_30 : am_code 139 30 = some (.goto 45, 3) := by decide +kernel
theorem s_139_30 (cl : am_C) (ls : am_Ls) (st : List am_V) (h : am_H) : am_go0 cl 139 30 ls st h = am_go0 cl 139 75 ls st h := am_rGo am_m139 d_139_30 (by decide) _ _ _
theorem d_139_33 : am_code 139 33 = some (.iload_n 2, 1) := by decide +kernel
theorem s_139_33 (cl : am_C) (a0 a1 : Option am_V) (x : Int) (st : List am_V) (h : am_H) : am_go0 cl 139 33 [a0, a1, some (.inl x)] st h = am_go0 cl 139 34 [a0, a1, some (.inl x)] (.inl x :: st) h := am_r am_m139 d_139_33 rfl
theorem d_139_34 : am_code 139 34 = some (.iconst 1, 1) := by decide +kernel
theorem s_139_34 (cl : am_C) (ls : am_Ls) (st : List am_V) (h : am_H) : am_go0 cl 139 34 ls st h = am_go0 cl 139 35 ls (.inl 1 :: st) h := am_rK am_m139 d_139_34 (by decide) rfl _ _ _
theorem d_139_35 : am_code 139 35 = some (.if_icmp .ne 12, 3) := by decide +kernel
theorem s_139_35 (cl : am_C) (ls : am_Ls) (x y : Int) (st : List am_V) (h : am_H) : am_go0 cl 139 35 ls (.inl y :: .inl x :: st) h = if x = y then am_go0 cl 139 38 ls st h else am_go0 cl 139 47 ls st h := (am_rJ0 am_m139 d_139_35 (by decide) rfl x y ls st h).trans (am_ifF ((am_cmp_ne x y).trans Iff.rfl) _ _)
theorem d_139_38 : am_code 139 38 = some (.aload_n 0, 1) := by decide +kernel
theorem s_139_38 (cl : am_C) (a1 a2 : Option am_V) (x : Nat) (st : List am_V) (h : am_H) : am_go0 cl 139 38 [some (.inr (.inr (some x))), a1, a2] st h = am_go0 cl 139 39 [some (.inr (.inr (some x))), a1, a2] (.inr (.inr (some x)) :: st) h := am_r am_m139 d_139_38 rfl
theorem d_139_39 : am_code 139 39 = some (.getfield 20, 3) := by decide +kernel
theorem s_139_39 (cl : am_C) (ls : am_Ls) (st : List am_V) (N : Nat) (I : Nat → Int → Int) (L : Nat → Int → Int64) : am_go0 cl 139 39 ls (.inr (.inr (some 53)) :: st) (am_GS N, am_GR, I, L) = am_go0 cl 139 42 ls (.inr (.inr (some 56)) :: st) (am_GS N, am_GR, I, L) := am_rG2 am_m139 d_139_39 am_f9020 rfl (gs_53 N) (by decide) gr_53_4 rfl
theorem d_139_42 : am_code 139 42 = some (.iload_n 1, 1) := by decide +kernel
theorem s_139_42 (cl : am_C) (a0 a2 : Option am_V) (x : Int) (st : List am_V) (h : am_H) : am_go0 cl 139 42 [a0, some (.inl x), a2] st h = am_go0 cl 139 43 [a0, some (.inl x), a2] (.inl x :: st) h := am_r am_m139 d_139_42 rfl
theorem d_139_43 : am_code 139 43 = some (.iaload, 1) := by decide +kernel
theorem s_139_43 (cl : am_C) (ls : am_Ls) (i : Int) (k : Nat) (st : List am_V) (N : Nat) (I : Nat → Int → Int) (L : Nat → Int → Int64) : am_go0 cl 139 43 ls (.inl i :: .inr (.inr (some k)) :: st) (am_GS N, am_GR, I, L) = if am_inb (am_GS N) k 0 i = true then am_go0 cl 139 44 ls (.inl (I k i) :: st) (am_GS N, am_GR, I, L) else none := am_rA am_m139 d_139_43 (by decide) rfl k ls st i _ _ I L
theorem d_139_44 : am_code 139 44 = some (.goto 31, 3) := by decide +kernel
theorem s_139_44 (cl : am_C) (ls : am_Ls) (st : List am_V) (h : am_H) : am_go0 cl 139 44 ls st h = am_go0 cl 139 75 ls st h := am_rGo am_m139 d_139_44 (by decide) _ _ _
theorem d_139_47 : am_code 139 47 = some (.iload_n 2, 1) := by decide +kernel
theorem s_139_47 (cl : am_C) (a0 a1 : Option am_V) (x : Int) (st : List am_V) (h : am_H) : am_go0 cl 139 47 [a0, a1, some (.inl x)] st h = am_go0 cl 139 48 [a0, a1, some (.inl x)] (.inl x :: st) h := am_r am_m139 d_139_47 rfl
theorem d_139_48 : am_code 139 48 = some (.iconst 2, 1) := by decide +kernel
theorem s_139_48 (cl : am_C) (ls : am_Ls) (st : List am_V) (h : am_H) : am_go0 cl 139 48 ls st h = am_go0 cl 139 49 ls (.inl 2 :: st) h := am_rK am_m139 d_139_48 (by decide) rfl _ _ _
theorem d_139_49 : am_code 139 49 = some (.if_icmp .ne 12, 3) := by decide +kernel
theorem s_139_49 (cl : am_C) (ls : am_Ls) (x y : Int) (st : List am_V) (h : am_H) : am_go0 cl 139 49 ls (.inl y :: .inl x :: st) h = if x = y then am_go0 cl 139 52 ls st h else am_go0 cl 139 61 ls st h := (am_rJ0 am_m139 d_139_49 (by decide) rfl x y ls st h).trans (am_ifF ((am_cmp_ne x y).trans Iff.rfl) _ _)
theorem d_139_52 : am_code 139 52 = some (.aload_n 0, 1) := by decide +kernel
theorem s_139_52 (cl : am_C) (a1 a2 : Option am_V) (x : Nat) (st : List am_V) (h : am_H) : am_go0 cl 139 52 [some (.inr (.inr (some x))), a1, a2] st h = am_go0 cl 139 53 [some (.inr (.inr (some x))), a1, a2] (.inr (.inr (some x)) :: st) h := am_r am_m139 d_139_52 rfl
theorem d_139_53 : am_code 139 53 = some (.getfield 23, 3) := by decide +kernel
theorem s_139_53 (cl : am_C) (ls : am_Ls) (st : List am_V) (N : Nat) (I : Nat → Int → Int) (L : Nat → Int → Int64) : am_go0 cl 139 53 ls (.inr (.inr (some 53)) :: st) (am_GS N, am_GR, I, L) = am_go0 cl 139 56 ls (.inr (.inr (some 57)) :: st) (am_GS N, am_GR, I, L) := am_rG2 am_m139 d_139_53 am_f9023 rfl (gs_53 N) (by decide) gr_53_5 rfl
theorem d_139_56 : am_code 139 56 = some (.iload_n 1, 1) := by decide +kernel
theorem s_139_56 (cl : am_C) (a0 a2 : Option am_V) (x : Int) (st : List am_V) (h : am_H) : am_go0 cl 139 56 [a0, some (.inl x), a2] st h = am_go0 cl 139 57 [a0, some (.inl x), a2] (.inl x :: st) h := am_r am_m139 d_139_56 rfl
theorem d_139_57 : am_code 139 57 = some (.iaload, 1) := by decide +kernel
theorem s_139_57 (cl : am_C) (ls : am_Ls) (i : Int) (k : Nat) (st : List am_V) (N : Nat) (I : Nat → Int → Int) (L : Nat → Int → Int64) : am_go0 cl 139 57 ls (.inl i :: .inr (.inr (some k)) :: st) (am_GS N, am_GR, I, L) = if am_inb (am_GS N) k 0 i = true then am_go0 cl 139 58 ls (.inl (I k i) :: st) (am_GS N, am_GR, I, L) else none := am_rA am_m139 d_139_57 (by decide) rfl k ls st i _ _ I L
theorem d_139_58 : am_code 139 58 = some (.goto 17, 3) := by decide +kernel
theorem s_139_58 (cl : am_C) (ls : am_Ls) (st : List am_V) (h : am_H) : am_go0 cl 139 58 ls st h = am_go0 cl 139 75 ls st h := am_rGo am_m139 d_139_58 (by decide) _ _ _
theorem d_139_61 : am_code 139 61 = some (.aload_n 0, 1) := by decide +kernel
theorem s_139_61 (cl : am_C) (a1 a2 : Option am_V) (x : Nat) (st : List am_V) (h : am_H) : am_go0 cl 139 61 [some (.inr (.inr (some x))), a1, a2] st h = am_go0 cl 139 62 [some (.inr (.inr (some x))), a1, a2] (.inr (.inr (some x)) :: st) h := am_r am_m139 d_139_61 rfl
theorem d_139_62 : am_code 139 62 = some (.getfield 26, 3) := by decide +kernel
theorem s_139_62 (cl : am_C) (ls : am_Ls) (st : List am_V) (N : Nat) (I : Nat → Int → Int) (L : Nat → Int → Int64) : am_go0 cl 139 62 ls (.inr (.inr (some 53)) :: st) (am_GS N, am_GR, I, L) = am_go0 cl 139 65 ls (.inr (.inr (some 58)) :: st) (am_GS N, am_GR, I, L) := am_rG2 am_m139 d_139_62 am_f9026 rfl (gs_53 N) (by decide) gr_53_6 rfl
theorem d_139_65 : am_code 139 65 = some (.iload_n 1, 1) := by decide +kernel
theorem s_139_65 (cl : am_C) (a0 a2 : Option am_V) (x : Int) (st : List am_V) (h : am_H) : am_go0 cl 139 65 [a0, some (.inl x), a2] st h = am_go0 cl 139 66 [a0, some (.inl x), a2] (.inl x :: st) h := am_r am_m139 d_139_65 rfl
theorem d_139_66 : am_code 139 66 = some (.iaload, 1) := by decide +kernel
theorem s_139_66 (cl : am_C) (ls : am_Ls) (i : Int) (k : Nat) (st : List am_V) (N : Nat) (I : Nat → Int → Int) (L : Nat → Int → Int64) : am_go0 cl 139 66 ls (.inl i :: .inr (.inr (some k)) :: st) (am_GS N, am_GR, I, L) = if am_inb (am_GS N) k 0 i = true then am_go0 cl 139 67 ls (.inl (I k i) :: st) (am_GS N, am_GR, I, L) else none := am_rA am_m139 d_139_66 (by decide) rfl k ls st i _ _ I L
theorem d_139_67 : am_code 139 67 = some (.ifCond .ne 7, 3) := by decide +kernel
theorem s_139_67 (cl : am_C) (ls : am_Ls) (x : Int) (st : List am_V) (h : am_H) : am_go0 cl 139 67 ls (.inl x :: st) h = if x = 0 then am_go0 cl 139 70 ls st h else am_go0 cl 139 74 ls st h := (am_rJ1 am_m139 d_139_67 (by decide) rfl x ls st h).trans (am_ifF ((am_cmp_ne x 0).trans Iff.rfl) _ _)
theorem d_139_70 : am_code 139 70 = some (.iconst 1, 1) := by decide +kernel
theorem s_139_70 (cl : am_C) (ls : am_Ls) (st : List am_V) (h : am_H) : am_go0 cl 139 70 ls st h = am_go0 cl 139 71 ls (.inl 1 :: st) h := am_rK am_m139 d_139_70 (by decide) rfl _ _ _
theorem d_139_71 : am_code 139 71 = some (.goto 4, 3) := by decide +kernel
theorem s_139_71 (cl : am_C) (ls : am_Ls) (st : List am_V) (h : am_H) : am_go0 cl 139 71 ls st h = am_go0 cl 139 75 ls st h := am_rGo am_m139 d_139_71 (by decide) _ _ _
theorem d_139_74 : am_code 139 74 = some (.iconst 0, 1) := by decide +kernel
theorem s_139_74 (cl : am_C) (ls : am_Ls) (st : List am_V) (h : am_H) : am_go0 cl 139 74 ls st h = am_go0 cl 139 75 ls (.inl 0 :: st) h := am_rK am_m139 d_139_74 (by decide) rfl _ _ _
theorem d_139_75 : am_code 139 75 = some (.ireturn, 1) := by decide +kernel
theorem s_139_75 (cl : am_C) (ls : am_Ls) (x : Int) (h : am_H) : am_go0 cl 139 75 ls [.inl x] h = some (some (.inl x), h) := am_rE am_m139 d_139_75 rfl
theorem e_139 (d : Nat) (t : Nat) (p0 : Int) (p1 : Int) (h : am_H) : am_call (d + 1) 139 [.inr (.inr (some t)), .inl p0, .inl p1] h = am_go0 (am_call d) 139 0 [some (.inr (.inr (some t))), some (.inl p0), some (.inl p1)] [] h := am_callE am_m139 (Nat.le_of_ble_eq_true rfl) rfl
theorem d_140_0 : am_code 140 0 = some (.iload_n 1, 1) := by decide +kernel
theorem s_140_0 (cl : am_C) (a0 a2 : Option am_V) (x : Int) (st : List am_V) (h : am_H) : am_go0 cl 140 0 [a0, some (.inl x), a2] st h = am_go0 cl 140 1 [a0, some (.inl x), a2] (.inl x :: st) h := am_r am_m140 d_140_0 rfl
theorem d_140_1 : am_code 140 1 = some (.iconst 1, 1) := by decide +kernel
theorem s_140_1 (cl : am_C) (ls : am_Ls) (st : List am_V) (h : am_H) : am_go0 cl 140 1 ls st h = am_go0 cl 140 2 ls (.inl 1 :: st) h := am_rK am_m140 d_140_1 (by decide) rfl _ _ _
theorem d_140_2 : am_code 140 2 = some (.iconst 4, 1) := by decide +kernel
theorem s_140_2 (cl : am_C) (ls : am_Ls) (st : List am_V) (h : am_H) : am_go0 cl 140 2 ls st h = am_go0 cl 140 3 ls (.inl 4 :: st) h := am_rK am_m140 d_140_2 (by decide) rfl _ _ _
theorem d_140_3 : am_code 140 3 = some (.invokestatic 151, 3) := by decide +kernel
theorem s_140_3 (cl : am_C) (ls : am_Ls) (x0 : Int) (x1 : Int) (x2 : Int) (h : am_H) : am_go0 cl 140 3 ls [.inl x2, .inl x1, .inl x0] h = am_bd (cl 135 [.inl x0, .inl x1, .inl x2] h) (fun v h2 => am_go0 cl 140 6 ls (v.toList ++ []) h2) := am_rVs am_m140 d_140_3 am_k9151 rfl (Nat.le_of_ble_eq_true rfl) rfl ls
theorem d_140_6 : am_code 140 6 = some (.ifCond .ne 6, 3) := by decide +kernel
theorem s_140_6 (cl : am_C) (ls : am_Ls) (x : Int) (st : List am_V) (h : am_H) : am_go0 cl 140 6 ls (.inl x :: st) h = if x = 0 then am_go0 cl 140 9 ls st h else am_go0 cl 140 12 ls st h := (am_rJ1 am_m140 d_140_6 (by decide) rfl x ls st h).trans (am_ifF ((am_cmp_ne x 0).trans Iff.rfl) _ _)
theorem d_140_9 : am_code 140 9 = some (.bipush (-2), 2) := by decide +kernel
theorem s_140_9 (cl : am_C) (ls : am_Ls) (st : List am_V) (h : am_H) : am_go0 cl 140 9 ls st h = am_go0 cl 140 11 ls (.inl (-2) :: st) h := am_rB am_m140 d_140_9 (by decide) rfl _ _ _
theorem d_140_11 : am_code 140 11 = some (.ireturn, 1) := by decide +kernel
theorem s_140_11 (cl : am_C) (ls : am_Ls) (x : Int) (h : am_H) : am_go0 cl 140 11 ls [.inl x] h = some (some (.inl x), h) := am_rE am_m140 d_140_11 rfl
theorem d_140_12 : am_code 140 12 = some (.aload_n 0, 1) := by decide +kernel
theorem s_140_12 (cl : am_C) (a1 a2 : Option am_V) (x : Nat) (st : List am_V) (h : am_H) : am_go0 cl 140 12 [some (.inr (.inr (some x))), a1, a2] st h = am_go0 cl 140 13 [some (.inr (.inr (some x))), a1, a2] (.inr (.inr (some x)) :: st) h := am_r am_m140 d_140_12 rfl
theorem d_140_13 : am_code 140 13 = some (.getfield 166, 3) := by decide +kernel
theorem s_140_13 (cl : am_C) (ls : am_Ls) (st : List am_V) (N : Nat) (I : Nat → Int → Int) (L : Nat → Int → Int64) : am_go0 cl 140 13 ls (.inr (.inr (some 53)) :: st) (am_GS N, am_GR, I, L) = am_go0 cl 140 16 ls (.inl (I 53 9) :: st) (am_GS N, am_GR, I, L) := am_rG0 am_m140 d_140_13 am_f9166 rfl (gs_53 N) (by decide) rfl
theorem d_140_16 : am_code 140 16 = some (.bipush 8, 2) := by decide +kernel
theorem s_140_16 (cl : am_C) (ls : am_Ls) (st : List am_V) (h : am_H) : am_go0 cl 140 16 ls st h = am_go0 cl 140 18 ls (.inl 8 :: st) h := am_rB am_m140 d_140_16 (by decide) rfl _ _ _
theorem d_140_18 : am_code 140 18 = some (.if_icmp .ne 6, 3) := by decide +kernel
theorem s_140_18 (cl : am_C) (ls : am_Ls) (x y : Int) (st : List am_V) (h : am_H) : am_go0 cl 140 18 ls (.inl y :: .inl x :: st) h = if x = y then am_go0 cl 140 21 ls st h else am_go0 cl 140 24 ls st h := (am_rJ0 am_m140 d_140_18 (by decide) rfl x y ls st h).trans (am_ifF ((am_cmp_ne x y).trans Iff.rfl) _ _)
theorem d_140_21 : am_code 140 21 = some (.bipush (-3), 2) := by decide +kernel
theorem s_140_21 (cl : am_C) (ls : am_Ls) (st : List am_V) (h : am_H) : am_go0 cl 140 21 ls st h = am_go0 cl 140 23 ls (.inl (-3) :: st) h := am_rB am_m140 d_140_21 (by decide) rfl _ _ _
theorem d_140_23 : am_code 140 23 = some (.ireturn, 1) := by decide +kernel
theorem s_140_23 (cl : am_C) (ls : am_Ls) (x : Int) (h : am_H) : am_go0 cl 140 23 ls [.inl x] h = some (some (.inl x), h) := am_rE am_m140 d_140_23 rfl
theorem d_140_24 : am_code 140 24 = some (.aload_n 0, 1) := by decide +kernel
theorem s_140_24 (cl : am_C) (a1 a2 : Option am_V) (x : Nat) (st : List am_V) (h : am_H) : am_go0 cl 140 24 [some (.inr (.inr (some x))), a1, a2] st h = am_go0 cl 140 25 [some (.inr (.inr (some x))), a1, a2] (.inr (.inr (some x)) :: st) h := am_r am_m140 d_140_24 rfl
theorem d_140_25 : am_code 140 25 = some (.getfield 35, 3) := by decide +kernel
theorem s_140_25 (cl : am_C) (ls : am_Ls) (st : List am_V) (N : Nat) (I : Nat → Int → Int) (L : Nat → Int → Int64) : am_go0 cl 140 25 ls (.inr (.inr (some 53)) :: st) (am_GS N, am_GR, I, L) = am_go0 cl 140 28 ls (.inr (.inr (some 61)) :: st) (am_GS N, am_GR, I, L) := am_rG2 am_m140 d_140_25 am_f9035 rfl (gs_53 N) (by decide) gr_53_10 rfl
theorem d_140_28 : am_code 140 28 = some (.aload_n 0, 1) := by decide +kernel
theorem s_140_28 (cl : am_C) (a1 a2 : Option am_V) (x : Nat) (st : List am_V) (h : am_H) : am_go0 cl 140 28 [some (.inr (.inr (some x))), a1, a2] st h = am_go0 cl 140 29 [some (.inr (.inr (some x))), a1, a2] (.inr (.inr (some x)) :: st) h := am_r am_m140 d_140_28 rfl
theorem d_140_29 : am_code 140 29 = some (.getfield 166, 3) := by decide +kernel
theorem s_140_29 (cl : am_C) (ls : am_Ls) (st : List am_V) (N : Nat) (I : Nat → Int → Int) (L : Nat → Int → Int64) : am_go0 cl 140 29 ls (.inr (.inr (some 53)) :: st) (am_GS N, am_GR, I, L) = am_go0 cl 140 32 ls (.inl (I 53 9) :: st) (am_GS N, am_GR, I, L) := am_rG0 am_m140 d_140_29 am_f9166 rfl (gs_53 N) (by decide) rfl
theorem d_140_32 : am_code 140 32 = some (.iload_n 1, 1) := by decide +kernel
theorem s_140_32 (cl : am_C) (a0 a2 : Option am_V) (x : Int) (st : List am_V) (h : am_H) : am_go0 cl 140 32 [a0, some (.inl x), a2] st h = am_go0 cl 140 33 [a0, some (.inl x), a2] (.inl x :: st) h := am_r am_m140 d_140_32 rfl
theorem d_140_33 : am_code 140 33 = some (.iastore, 1) := by decide +kernel
theorem s_140_33 (cl : am_C) (ls : am_Ls) (i : Int) (v : Int) (k : Nat) (st : List am_V) (N : Nat) (I : Nat → Int → Int) (L : Nat → Int → Int64) : am_go0 cl 140 33 ls (.inl v :: .inl i :: .inr (.inr (some k)) :: st) (am_GS N, am_GR, I, L) = if am_inb (am_GS N) k 0 i = true then am_go0 cl 140 34 ls st (am_GS N, am_GR, am_uI I k i v, L) else none := am_rS am_m140 d_140_33 rfl k ls st i v _ _ I L
theorem d_140_34 : am_code 140 34 = some (.aload_n 0, 1) := by decide +kernel
theorem s_140_34 (cl : am_C) (a1 a2 : Option am_V) (x : Nat) (st : List am_V) (h : am_H) : am_go0 cl 140 34 [some (.inr (.inr (some x))), a1, a2] st h = am_go0 cl 140 35 [some (.inr (.inr (some x))), a1, a2] (.inr (.inr (some x)) :: st) h := am_r am_m140 d_140_34 rfl
theorem d_140_35 : am_code 140 35 = some (.getfield 38, 3) := by decide +kernel
theorem s_140_35 (cl : am_C) (ls : am_Ls) (st : List am_V) (N : Nat) (I : Nat → Int → Int) (L : Nat → Int → Int64) : am_go0 cl 140 35 ls (.inr (.inr (some 53)) :: st) (am_GS N, am_GR, I, L) = am_go0 cl 140 38 ls (.inr (.inr (some 62)) :: st) (am_GS N, am_GR, I, L) := am_rG2 am_m140 d_140_35 am_f9038 rfl (gs_53 N) (by decide) gr_53_11 rfl
theorem d_140_38 : am_code 140 38 = some (.aload_n 0, 1) := by decide +kernel
theorem s_140_38 (cl : am_C) (a1 a2 : Option am_V) (x : Nat) (st : List am_V) (h : am_H) : am_go0 cl 140 38 [some (.inr (.inr (some x))), a1, a2] st h = am_go0 cl 140 39 [some (.inr (.inr (some x))), a1, a2] (.inr (.inr (some x)) :: st) h := am_r am_m140 d_140_38 rfl
theorem d_140_39 : am_code 140 39 = some (.getfield 166, 3) := by decide +kernel
theorem s_140_39 (cl : am_C) (ls : am_Ls) (st : List am_V) (N : Nat) (I : Nat → Int → Int) (L : Nat → Int → Int64) : am_go0 cl 140 39 ls (.inr (.inr (some 53)) :: st) (am_GS N, am_GR, I, L) = am_go0 cl 140 42 ls (.inl (I 53 9) :: st) (am_GS N, am_GR, I, L) := am_rG0 am_m140 d_140_39 am_f9166 rfl (gs_53 N) (by decide) rfl
theorem d_140_42 : am_code 140 42 = some (.iconst 0, 1) := by decide +kernel
theorem s_140_42 (cl : am_C) (ls : am_Ls) (st : List am_V) (h : am_H) : am_go0 cl 140 42 ls st h = am_go0 cl 140 43 ls (.inl 0 :: st) h := am_rK am_m140 d_140_42 (by decide) rfl _ _ _
theorem d_140_43 : am_code 140 43 = some (.iastore, 1) := by decide +kernel
theorem s_140_43 (cl : am_C) (ls : am_Ls) (i : Int) (v : Int) (k : Nat) (st : List am_V) (N : Nat) (I : Nat → Int → Int) (L : Nat → Int → Int64) : am_go0 cl 140 43 ls (.inl v :: .inl i :: .inr (.inr (some k)) :: st) (am_GS N, am_GR, I, L) = if am_inb (am_GS N) k 0 i = true then am_go0 cl 140 44 ls st (am_GS N, am_GR, am_uI I k i v, L) else none := am_rS am_m140 d_140_43 rfl k ls st i v _ _ I L
theorem d_140_44 : am_code 140 44 = some (.iconst 0, 1) := by decide +kernel
theorem s_140_44 (cl : am_C) (ls : am_Ls) (st : List am_V) (h : am_H) : am_go0 cl 140 44 ls st h = am_go0 cl 140 45 ls (.inl 0 :: st) h := am_rK am_m140 d_140_44 (by decide) rfl _ _ _
theorem d_140_45 : am_code 140 45 = some (.istore_n 2, 1) := by decide +kernel
theorem s_140_45 (cl : am_C) (a0 a1 a2 : Option am_V) (x : Int) (st : List am_V) (h : am_H) : am_go0 cl 140 45 [a0, a1, a2] (.inl x :: st) h = am_go0 cl 140 46 [a0, am_c1 a1, some (.inl x)] st h := am_r am_m140 d_140_45 rfl
theorem d_140_46 : am_code 140 46 = some (.iload_n 2, 1) := by decide +kernel
theorem s_140_46 (cl : am_C) (a0 a1 : Option am_V) (x : Int) (st : List am_V) (h : am_H) : am_go0 cl 140 46 [a0, a1, some (.inl x)] st h = am_go0 cl 140 47 [a0, a1, some (.inl x)] (.inl x :: st) h := am_r am_m140 d_140_46 rfl
theorem d_140_47 : am_code 140 47 = some (.iconst 4, 1) := by decide +kernel
theorem s_140_47 (cl : am_C) (ls : am_Ls) (st : List am_V) (h : am_H) : am_go0 cl 140 47 ls st h = am_go0 cl 140 48 ls (.inl 4 :: st) h := am_rK am_m140 d_140_47 (by decide) rfl _ _ _
theorem d_140_48 : am_code 140 48 = some (.if_icmp .ge 23, 3) := by decide +kernel
theorem s_140_48 (cl : am_C) (ls : am_Ls) (x y : Int) (st : List am_V) (h : am_H) : am_go0 cl 140 48 ls (.inl y :: .inl x :: st) h = if x < y then am_go0 cl 140 51 ls st h else am_go0 cl 140 71 ls st h := (am_rJ0 am_m140 d_140_48 (by decide) rfl x y ls st h).trans (am_ifF ((am_cmp_ge x y).trans Int.not_lt.symm) _ _)
theorem d_140_51 : am_code 140 51 = some (.aload_n 0, 1) := by decide +kernel
theorem s_140_51 (cl : am_C) (a1 a2 : Option am_V) (x : Nat) (st : List am_V) (h : am_H) : am_go0 cl 140 51 [some (.inr (.inr (some x))), a1, a2] st h = am_go0 cl 140 52 [some (.inr (.inr (some x))), a1, a2] (.inr (.inr (some x)) :: st) h := am_r am_m140 d_140_51 rfl
theorem d_140_52 : am_code 140 52 = some (.getfield 44, 3) := by decide +kernel
theorem s_140_52 (cl : am_C) (ls : am_Ls) (st : List am_V) (N : Nat) (I : Nat → Int → Int) (L : Nat → Int → Int64) : am_go0 cl 140 52 ls (.inr (.inr (some 53)) :: st) (am_GS N, am_GR, I, L) = am_go0 cl 140 55 ls (.inr (.inr (some 64)) :: st) (am_GS N, am_GR, I, L) := am_rG2 am_m140 d_140_52 am_f9044 rfl (gs_53 N) (by decide) gr_53_13 rfl
theorem d_140_55 : am_code 140 55 = some (.iconst 4, 1) := by decide +kernel
theorem s_140_55 (cl : am_C) (ls : am_Ls) (st : List am_V) (h : am_H) : am_go0 cl 140 55 ls st h = am_go0 cl 140 56 ls (.inl 4 :: st) h := am_rK am_m140 d_140_55 (by decide) rfl _ _ _
theorem d_140_56 : am_code 140 56 = some (.aload_n 0, 1) := by decide +kernel
theorem s_140_56 (cl : am_C) (a1 a2 : Option am_V) (x : Nat) (st : List am_V) (h : am_H) : am_go0 cl 140 56 [some (.inr (.inr (some x))), a1, a2] st h = am_go0 cl 140 57 [some (.inr (.inr (some x))), a1, a2] (.inr (.inr (some x)) :: st) h := am_r am_m140 d_140_56 rfl
theorem d_140_57 : am_code 140 57 = some (.getfield 166, 3) := by decide +kernel
theorem s_140_57 (cl : am_C) (ls : am_Ls) (st : List am_V) (N : Nat) (I : Nat → Int → Int) (L : Nat → Int → Int64) : am_go0 cl 140 57 ls (.inr (.inr (some 53)) :: st) (am_GS N, am_GR, I, L) = am_go0 cl 140 60 ls (.inl (I 53 9) :: st) (am_GS N, am_GR, I, L) := am_rG0 am_m140 d_140_57 am_f9166 rfl (gs_53 N) (by decide) rfl
theorem d_140_60 : am_code 140 60 = some (.imul, 1) := by decide +kernel
theorem s_140_60 (cl : am_C) (ls : am_Ls) (x y : Int) (st : List am_V) (h : am_H) : am_go0 cl 140 60 ls (.inl y :: .inl x :: st) h = am_go0 cl 140 61 ls (.inl (am_wr (x * y)) :: st) h := am_r am_m140 d_140_60 rfl
theorem d_140_61 : am_code 140 61 = some (.iload_n 2, 1) := by decide +kernel
theorem s_140_61 (cl : am_C) (a0 a1 : Option am_V) (x : Int) (st : List am_V) (h : am_H) : am_go0 cl 140 61 [a0, a1, some (.inl x)] st h = am_go0 cl 140 62 [a0, a1, some (.inl x)] (.inl x :: st) h := am_r am_m140 d_140_61 rfl
theorem d_140_62 : am_code 140 62 = some (.iadd, 1) := by decide +kernel
theorem s_140_62 (cl : am_C) (ls : am_Ls) (x y : Int) (st : List am_V) (h : am_H) : am_go0 cl 140 62 ls (.inl y :: .inl x :: st) h = am_go0 cl 140 63 ls (.inl (am_wr (x + y)) :: st) h := am_r am_m140 d_140_62 rfl
theorem d_140_63 : am_code 140 63 = some (.iconst (-1), 1) := by decide +kernel
theorem s_140_63 (cl : am_C) (ls : am_Ls) (st : List am_V) (h : am_H) : am_go0 cl 140 63 ls st h = am_go0 cl 140 64 ls (.inl (-1) :: st) h := am_rK am_m140 d_140_63 (by decide) rfl _ _ _
theorem d_140_64 : am_code 140 64 = some (.iastore, 1) := by decide +kernel
theorem s_140_64 (cl : am_C) (ls : am_Ls) (i : Int) (v : Int) (k : Nat) (st : List am_V) (N : Nat) (I : Nat → Int → Int) (L : Nat → Int → Int64) : am_go0 cl 140 64 ls (.inl v :: .inl i :: .inr (.inr (some k)) :: st) (am_GS N, am_GR, I, L) = if am_inb (am_GS N) k 0 i = true then am_go0 cl 140 65 ls st (am_GS N, am_GR, am_uI I k i v, L) else none := am_rS am_m140 d_140_64 rfl k ls st i v _ _ I L
theorem d_140_65 : am_code 140 65 = some (.iinc 2 1, 3) := by decide +kernel
theorem s_140_65 (cl : am_C) (a0 a1 : Option am_V) (x : Int) (st : List am_V) (h : am_H) : am_go0 cl 140 65 [a0, a1, some (.inl x)] st h = am_go0 cl 140 68 [a0, am_c1 a1, some (.inl (am_wr (x + 1)))] st h := am_r am_m140 d_140_65 rfl
theorem d_140_68 : am_code 140 68 = some (.goto (-22), 3) := by decide +kernel
theorem s_140_68 (cl : am_C) (ls : am_Ls) (st : List am_V) (h : am_H) : am_go0 cl 140 68 ls st h = am_go0 cl 140 46 ls st h := am_rGo am_m140 d_140_68 (by decide) _ _ _
theorem d_140_71 : am_code 140 71 = some (.aload_n 0, 1) := by decide +kernel
theorem s_140_71 (cl : am_C) (a1 a2 : Option am_V) (x : Nat) (st : List am_V) (h : am_H) : am_go0 cl 140 71 [some (.inr (.inr (some x))), a1, a2] st h = am_go0 cl 140 72 [some (.inr (.inr (some x))), a1, a2] (.inr (.inr (some x)) :: st) h := am_r am_m140 d_140_71 rfl
theorem d_140_72 : am_code 140 72 = some (.dup, 1) := by decide +kernel
theorem s_140_72 (cl : am_C) (ls : am_Ls) (x : Nat) (st : List am_V) (h : am_H) : am_go0 cl 140 72 ls (.inr (.inr (some x)) :: st) h = am_go0 cl 140 73 ls (.inr (.inr (some x)) :: .inr (.inr (some x)) :: st) h := am_r am_m140 d_140_72 rfl
theorem d_140_73 : am_code 140 73 = some (.getfield 166, 3) := by decide +kernel
theorem s_140_73 (cl : am_C) (ls : am_Ls) (st : List am_V) (N : Nat) (I : Nat → Int → Int) (L : Nat → Int → Int64) : am_go0 cl 140 73 ls (.inr (.inr (some 53)) :: st) (am_GS N, am_GR, I, L) = am_go0 cl 140 76 ls (.inl (I 53 9) :: st) (am_GS N, am_GR, I, L) := am_rG0 am_m140 d_140_73 am_f9166 rfl (gs_53 N) (by decide) rfl
theorem d_140_76 : am_code 140 76 = some (.iconst 1, 1) := by decide +kernel
theorem s_140_76 (cl : am_C) (ls : am_Ls) (st : List am_V) (h : am_H) : am_go0 cl 140 76 ls st h = am_go0 cl 140 77 ls (.inl 1 :: st) h := am_rK am_m140 d_140_76 (by decide) rfl _ _ _
theorem d_140_77 : am_code 140 77 = some (.iadd, 1) := by decide +kernel
theorem s_140_77 (cl : am_C) (ls : am_Ls) (x y : Int) (st : List am_V) (h : am_H) : am_go0 cl 140 77 ls (.inl y :: .inl x :: st) h = am_go0 cl 140 78 ls (.inl (am_wr (x + y)) :: st) h := am_r am_m140 d_140_77 rfl
theorem d_140_78 : am_code 140 78 = some (.putfield 166, 3) := by decide +kernel
theorem s_140_78 (cl : am_C) (ls : am_Ls) (v : Int) (st : List am_V) (N : Nat) (I : Nat → Int → Int) (L : Nat → Int → Int64) : am_go0 cl 140 78 ls (.inl v :: .inr (.inr (some 53)) :: st) (am_GS N, am_GR, I, L) = am_go0 cl 140 81 ls st (am_GS N, am_GR, am_uI I 53 9 v, L) := am_rP0 am_m140 d_140_78 am_f9166 rfl (gs_53 N) (by decide) rfl
theorem d_140_81 : am_code 140 81 = some (.aload_n 0, 1) := by decide +kernel
theorem s_140_81 (cl : am_C) (a1 a2 : Option am_V) (x : Nat) (st : List am_V) (h : am_H) : am_go0 cl 140 81 [some (.inr (.inr (some x))), a1, a2] st h = am_go0 cl 140 82 [some (.inr (.inr (some x))), a1, a2] (.inr (.inr (some x)) :: st) h := am_r am_m140 d_140_81 rfl
theorem d_140_82 : am_code 140 82 = some (.aload_n 0, 1) := by decide +kernel
theorem s_140_82 (cl : am_C) (a1 a2 : Option am_V) (x : Nat) (st : List am_V) (h : am_H) : am_go0 cl 140 82 [some (.inr (.inr (some x))), a1, a2] st h = am_go0 cl 140 83 [some (.inr (.inr (some x))), a1, a2] (.inr (.inr (some x)) :: st) h := am_r am_m140 d_140_82 rfl
theorem d_140_83 : am_code 140 83 = some (.getfield 166, 3) := by decide +kernel
theorem s_140_83 (cl : am_C) (ls : am_Ls) (st : List am_V) (N : Nat) (I : Nat → Int → Int) (L : Nat → Int → Int64) : am_go0 cl 140 83 ls (.inr (.inr (some 53)) :: st) (am_GS N, am_GR, I, L) = am_go0 cl 140 86 ls (.inl (I 53 9) :: st) (am_GS N, am_GR, I, L) := am_rG0 am_m140 d_140_83 am_f9166 rfl (gs_53 N) (by decide) rfl
theorem d_140_86 : am_code 140 86 = some (.iconst 1, 1) := by decide +kernel
theorem s_140_86 (cl : am_C) (ls : am_Ls) (st : List am_V) (h : am_H) : am_go0 cl 140 86 ls st h = am_go0 cl 140 87 ls (.inl 1 :: st) h := am_rK am_m140 d_140_86 (by decide) rfl _ _ _
theorem d_140_87 : am_code 140 87 = some (.isub, 1) := by decide +kernel
theorem s_140_87 (cl : am_C) (ls : am_Ls) (x y : Int) (st : List am_V) (h : am_H) : am_go0 cl 140 87 ls (.inl y :: .inl x :: st) h = am_go0 cl 140 88 ls (.inl (am_wr (x - y)) :: st) h := am_r am_m140 d_140_87 rfl
theorem d_140_88 : am_code 140 88 = some (.invokevirtual 175, 3) := by decide +kernel
theorem s_140_88 (cl : am_C) (ls : am_Ls) (x0 : Int) (N : Nat) (I : Nat → Int → Int) (L : Nat → Int → Int64) : am_go0 cl 140 88 ls [.inl x0, .inr (.inr (some 53))] (am_GS N, am_GR, I, L) = am_bd (cl 141 [.inr (.inr (some 53)), .inl x0] (am_GS N, am_GR, I, L)) (fun v h2 => am_go0 cl 140 91 ls (v.toList ++ []) h2) := am_rV am_m140 d_140_88 am_k9175 rfl am_m141 (gs_53 N) (by decide) (Nat.le_of_ble_eq_true rfl) rfl ls
theorem d_140_91 : am_code 140 91 = some (.ireturn, 1) := by decide +kernel
theorem s_140_91 (cl : am_C) (ls : am_Ls) (x : Int) (h : am_H) : am_go0 cl 140 91 ls [.inl x] h = some (some (.inl x), h) := am_rE am_m140 d_140_91 rfl
theorem e_140 (d : Nat) (t : Nat) (p0 : Int) (h : am_H) : am_call (d + 1) 140 [.inr (.inr (some t)), .inl p0] h = am_go0 (am_call d) 140 0 [some (.inr (.inr (some t))), some (.inl p0), none] [] h := am_callE am_m140 (Nat.le_of_ble_eq_true rfl) rfl
theorem d_141_0 : am_code 141 0 = some (.aload_n 0, 1) := by decide +kernel
theorem s_141_0 (cl : am_C) (a1 : Option am_V) (x : Nat) (st : List am_V) (h : am_H) : am_go0 cl 141 0 [some (.inr (.inr (some x))), a1] st h = am_go0 cl 141 1 [some (.inr (.inr (some x))), a1] (.inr (.inr (some x)) :: st) h := am_r am_m141 d_141_0 rfl
theorem d_141_1 : am_code 141 1 = some (.iconst 0, 1) := by decide +kernel
theorem s_141_1 (cl : am_C) (ls : am_Ls) (st : List am_V) (h : am_H) : am_go0 cl 141 1 ls st h = am_go0 cl 141 2 ls (.inl 0 :: st) h := am_rK am_m141 d_141_1 (by decide) rfl _ _ _
theorem d_141_2 : am_code 141 2 = some (.putfield 172, 3) := by decide +kernel
theorem s_141_2 (cl : am_C) (ls : am_Ls) (v : Int) (st : List am_V) (N : Nat) (I : Nat → Int → Int) (L : Nat → Int → Int64) : am_go0 cl 141 2 ls (.inl v :: .inr (.inr (some 53)) :: st) (am_GS N, am_GR, I, L) = am_go0 cl 141 5 ls st (am_GS N, am_GR, am_uI I 53 28 v, L) := am_rP0 am_m141 d_141_2 am_f9172 rfl (gs_53 N) (by decide) rfl
theorem d_141_5 : am_code 141 5 = some (.iload_n 1, 1) := by decide +kernel
theorem s_141_5 (cl : am_C) (a0 : Option am_V) (x : Int) (st : List am_V) (h : am_H) : am_go0 cl 141 5 [a0, some (.inl x)] st h = am_go0 cl 141 6 [a0, some (.inl x)] (.inl x :: st) h := am_r am_m141 d_141_5 rfl
theorem d_141_6 : am_code 141 6 = some (.ireturn, 1) := by decide +kernel
theorem s_141_6 (cl : am_C) (ls : am_Ls) (x : Int) (h : am_H) : am_go0 cl 141 6 ls [.inl x] h = some (some (.inl x), h) := am_rE am_m141 d_141_6 rfl
theorem e_141 (d : Nat) (t : Nat) (p0 : Int) (h : am_H) : am_call (d + 1) 141 [.inr (.inr (some t)), .inl p0] h = am_go0 (am_call d) 141 0 [some (.inr (.inr (some t))), some (.inl p0)] [] h := am_callE am_m141 (Nat.le_of_ble_eq_true rfl) rfl
theorem d_142_0 : am_code 142 0 = some (.aload_n 0, 1) := by decide +kernel
theorem s_142_0 (cl : am_C) (a1 a2 a3 : Option am_V) (x : Nat) (st : List am_V) (h : am_H) : am_go0 cl 142 0 [some (.inr (.inr (some x))), a1, a2, a3] st h = am_go0 cl 142 1 [some (.inr (.inr (some x))), a1, a2, a3] (.inr (.inr (some x)) :: st) h := am_r am_m142 d_142_0 rfl
theorem d_142_1 : am_code 142 1 = some (.iload_n 1, 1) := by decide +kernel
theorem s_142_1 (cl : am_C) (a0 a2 a3 : Option am_V) (x : Int) (st : List am_V) (h : am_H) : am_go0 cl 142 1 [a0, some (.inl x), a2, a3] st h = am_go0 cl 142 2 [a0, some (.inl x), a2, a3] (.inl x :: st) h := am_r am_m142 d_142_1 rfl
theorem d_142_2 : am_code 142 2 = some (.invokevirtual 179, 3) := by decide +kernel
theorem s_142_2 (cl : am_C) (ls : am_Ls) (x0 : Int) (N : Nat) (I : Nat → Int → Int) (L : Nat → Int → Int64) : am_go0 cl 142 2 ls [.inl x0, .inr (.inr (some 53))] (am_GS N, am_GR, I, L) = am_bd (cl 143 [.inr (.inr (some 53)), .inl x0] (am_GS N, am_GR, I, L)) (fun v h2 => am_go0 cl 142 5 ls (v.toList ++ []) h2) := am_rV am_m142 d_142_2 am_k9179 rfl am_m143 (gs_53 N) (by decide) (Nat.le_of_ble_eq_true rfl) rfl ls
theorem d_142_5 : am_code 142 5 = some (.ifCond .eq 16, 3) := by decide +kernel
theorem s_142_5 (cl : am_C) (ls : am_Ls) (x : Int) (st : List am_V) (h : am_H) : am_go0 cl 142 5 ls (.inl x :: st) h = if x = 0 then am_go0 cl 142 21 ls st h else am_go0 cl 142 8 ls st h := (am_rJ1 am_m142 d_142_5 (by decide) rfl x ls st h).trans (am_ifT (am_cmp_eq x 0) _ _)
theorem d_142_8 : am_code 142 8 = some (.aload_n 0, 1) := by decide +kernel
theorem s_142_8 (cl : am_C) (a1 a2 a3 : Option am_V) (x : Nat) (st : List am_V) (h : am_H) : am_go0 cl 142 8 [some (.inr (.inr (some x))), a1, a2, a3] st h = am_go0 cl 142 9 [some (.inr (.inr (some x))), a1, a2, a3] (.inr (.inr (some x)) :: st) h := am_r am_m142 d_142_8 rfl
theorem d_142_9 : am_code 142 9 = some (.iload_n 2, 1) := by decide +kernel
theorem s_142_9 (cl : am_C) (a0 a1 a3 : Option am_V) (x : Int) (st : List am_V) (h : am_H) : am_go0 cl 142 9 [a0, a1, some (.inl x), a3] st h = am_go0 cl 142 10 [a0, a1, some (.inl x), a3] (.inl x :: st) h := am_r am_m142 d_142_9 rfl
theorem d_142_10 : am_code 142 10 = some (.invokevirtual 179, 3) := by decide +kernel
theorem s_142_10 (cl : am_C) (ls : am_Ls) (x0 : Int) (N : Nat) (I : Nat → Int → Int) (L : Nat → Int → Int64) : am_go0 cl 142 10 ls [.inl x0, .inr (.inr (some 53))] (am_GS N, am_GR, I, L) = am_bd (cl 143 [.inr (.inr (some 53)), .inl x0] (am_GS N, am_GR, I, L)) (fun v h2 => am_go0 cl 142 13 ls (v.toList ++ []) h2) := am_rV am_m142 d_142_10 am_k9179 rfl am_m143 (gs_53 N) (by decide) (Nat.le_of_ble_eq_true rfl) rfl ls
theorem d_142_13 : am_code 142 13 = some (.ifCond .eq 8, 3) := by decide +kernel
theorem s_142_13 (cl : am_C) (ls : am_Ls) (x : Int) (st : List am_V) (h : am_H) : am_go0 cl 142 13 ls (.inl x :: st) h = if x = 0 then am_go0 cl 142 21 ls st h else am_go0 cl 142 16 ls st h := (am_rJ1 am_m142 d_142_13 (by decide) rfl x ls st h).trans (am_ifT (am_cmp_eq x 0) _ _)
theorem d_142_16 : am_code 142 16 = some (.iload_n 2, 1) := by decide +kernel
theorem s_142_16 (cl : am_C) (a0 a1 a3 : Option am_V) (x : Int) (st : List am_V) (h : am_H) : am_go0 cl 142 16 [a0, a1, some (.inl x), a3] st h = am_go0 cl 142 17 [a0, a1, some (.inl x), a3] (.inl x :: st) h := am_r am_m142 d_142_16 rfl
theorem d_142_17 : am_code 142 17 = some (.iload_n 1, 1) := by decide +kernel
theorem s_142_17 (cl : am_C) (a0 a2 a3 : Option am_V) (x : Int) (st : List am_V) (h : am_H) : am_go0 cl 142 17 [a0, some (.inl x), a2, a3] st h = am_go0 cl 142 18 [a0, some (.inl x), a2, a3] (.inl x :: st) h := am_r am_m142 d_142_17 rfl
theorem d_142_18 : am_code 142 18 = some (.if_icmp .lt 6, 3) := by decide +kernel
theorem s_142_18 (cl : am_C) (ls : am_Ls) (x y : Int) (st : List am_V) (h : am_H) : am_go0 cl 142 18 ls (.inl y :: .inl x :: st) h = if x < y then am_go0 cl 142 24 ls st h else am_go0 cl 142 21 ls st h := (am_rJ0 am_m142 d_142_18 (by decide) rfl x y ls st h).trans (am_ifT (am_cmp_lt x y) _ _)
theorem d_142_21 : am_code 142 21 = some (.bipush (-2), 2) := by decide +kernel
theorem s_142_21 (cl : am_C) (ls : am_Ls) (st : List am_V) (h : am_H) : am_go0 cl 142 21 ls st h = am_go0 cl 142 23 ls (.inl (-2) :: st) h := am_rB am_m142 d_142_21 (by decide) rfl _ _ _
theorem d_142_23 : am_code 142 23 = some (.ireturn, 1) := by decide +kernel
theorem s_142_23 (cl : am_C) (ls : am_Ls) (x : Int) (h : am_H) : am_go0 cl 142 23 ls [.inl x] h = some (some (.inl x), h) := am_rE am_m142 d_142_23 rfl
theorem d_142_24 : am_code 142 24 = some (.iconst 0, 1) := by decide +kernel
theorem s_142_24 (cl : am_C) (ls : am_Ls) (st : List am_V) (h : am_H) : am_go0 cl 142 24 ls st h = am_go0 cl 142 25 ls (.inl 0 :: st) h := am_rK am_m142 d_142_24 (by decide) rfl _ _ _
theorem d_142_25 : am_code 142 25 = some (.istore_n 3, 1) := by decide +kernel
theorem s_142_25 (cl : am_C) (a0 a1 a2 a3 : Option am_V) (x : Int) (st : List am_V) (h : am_H) : am_go0 cl 142 25 [a0, a1, a2, a3] (.inl x :: st) h = am_go0 cl 142 26 [a0, a1, am_c1 a2, some (.inl x)] st h := am_r am_m142 d_142_25 rfl
theorem d_142_26 : am_code 142 26 = some (.iload_n 3, 1) := by decide +kernel
theorem s_142_26 (cl : am_C) (a0 a1 a2 : Option am_V) (x : Int) (st : List am_V) (h : am_H) : am_go0 cl 142 26 [a0, a1, a2, some (.inl x)] st h = am_go0 cl 142 27 [a0, a1, a2, some (.inl x)] (.inl x :: st) h := am_r am_m142 d_142_26 rfl
theorem d_142_27 : am_code 142 27 = some (.aload_n 0, 1) := by decide +kernel
theorem s_142_27 (cl : am_C) (a1 a2 a3 : Option am_V) (x : Nat) (st : List am_V) (h : am_H) : am_go0 cl 142 27 [some (.inr (.inr (some x))), a1, a2, a3] st h = am_go0 cl 142 28 [some (.inr (.inr (some x))), a1, a2, a3] (.inr (.inr (some x)) :: st) h := am_r am_m142 d_142_27 rfl
theorem d_142_28 : am_code 142 28 = some (.getfield 38, 3) := by decide +kernel
theorem s_142_28 (cl : am_C) (ls : am_Ls) (st : List am_V) (N : Nat) (I : Nat → Int → Int) (L : Nat → Int → Int64) : am_go0 cl 142 28 ls (.inr (.inr (some 53)) :: st) (am_GS N, am_GR, I, L) = am_go0 cl 142 31 ls (.inr (.inr (some 62)) :: st) (am_GS N, am_GR, I, L) := am_rG2 am_m142 d_142_28 am_f9038 rfl (gs_53 N) (by decide) gr_53_11 rfl
theorem d_142_31 : am_code 142 31 = some (.iload_n 1, 1) := by decide +kernel
theorem s_142_31 (cl : am_C) (a0 a2 a3 : Option am_V) (x : Int) (st : List am_V) (h : am_H) : am_go0 cl 142 31 [a0, some (.inl x), a2, a3] st h = am_go0 cl 142 32 [a0, some (.inl x), a2, a3] (.inl x :: st) h := am_r am_m142 d_142_31 rfl
theorem d_142_32 : am_code 142 32 = some (.iaload, 1) := by decide +kernel
theorem s_142_32 (cl : am_C) (ls : am_Ls) (i : Int) (k : Nat) (st : List am_V) (N : Nat) (I : Nat → Int → Int) (L : Nat → Int → Int64) : am_go0 cl 142 32 ls (.inl i :: .inr (.inr (some k)) :: st) (am_GS N, am_GR, I, L) = if am_inb (am_GS N) k 0 i = true then am_go0 cl 142 33 ls (.inl (I k i) :: st) (am_GS N, am_GR, I, L) else none := am_rA am_m142 d_142_32 (by decide) rfl k ls st i _ _ I L
theorem d_142_33 : am_code 142 33 = some (.if_icmp .ge 26, 3) := by decide +kernel
theorem s_142_33 (cl : am_C) (ls : am_Ls) (x y : Int) (st : List am_V) (h : am_H) : am_go0 cl 142 33 ls (.inl y :: .inl x :: st) h = if x < y then am_go0 cl 142 36 ls st h else am_go0 cl 142 59 ls st h := (am_rJ0 am_m142 d_142_33 (by decide) rfl x y ls st h).trans (am_ifF ((am_cmp_ge x y).trans Int.not_lt.symm) _ _)
theorem d_142_36 : am_code 142 36 = some (.aload_n 0, 1) := by decide +kernel
theorem s_142_36 (cl : am_C) (a1 a2 a3 : Option am_V) (x : Nat) (st : List am_V) (h : am_H) : am_go0 cl 142 36 [some (.inr (.inr (some x))), a1, a2, a3] st h = am_go0 cl 142 37 [some (.inr (.inr (some x))), a1, a2, a3] (.inr (.inr (some x)) :: st) h := am_r am_m142 d_142_36 rfl
theorem d_142_37 : am_code 142 37 = some (.getfield 41, 3) := by decide +kernel
theorem s_142_37 (cl : am_C) (ls : am_Ls) (st : List am_V) (N : Nat) (I : Nat → Int → Int) (L : Nat → Int → Int64) : am_go0 cl 142 37 ls (.inr (.inr (some 53)) :: st) (am_GS N, am_GR, I, L) = am_go0 cl 142 40 ls (.inr (.inr (some 63)) :: st) (am_GS N, am_GR, I, L) := am_rG2 am_m142 d_142_37 am_f9041 rfl (gs_53 N) (by decide) gr_53_12 rfl
theorem d_142_40 : am_code 142 40 = some (.iconst 3, 1) := by decide +kernel
theorem s_142_40 (cl : am_C) (ls : am_Ls) (st : List am_V) (h : am_H) : am_go0 cl 142 40 ls st h = am_go0 cl 142 41 ls (.inl 3 :: st) h := am_rK am_m142 d_142_40 (by decide) rfl _ _ _
theorem d_142_41 : am_code 142 41 = some (.iload_n 1, 1) := by decide +kernel
theorem s_142_41 (cl : am_C) (a0 a2 a3 : Option am_V) (x : Int) (st : List am_V) (h : am_H) : am_go0 cl 142 41 [a0, some (.inl x), a2, a3] st h = am_go0 cl 142 42 [a0, some (.inl x), a2, a3] (.inl x :: st) h := am_r am_m142 d_142_41 rfl
theorem d_142_42 : am_code 142 42 = some (.imul, 1) := by decide +kernel
theorem s_142_42 (cl : am_C) (ls : am_Ls) (x y : Int) (st : List am_V) (h : am_H) : am_go0 cl 142 42 ls (.inl y :: .inl x :: st) h = am_go0 cl 142 43 ls (.inl (am_wr (x * y)) :: st) h := am_r am_m142 d_142_42 rfl
theorem d_142_43 : am_code 142 43 = some (.iload_n 3, 1) := by decide +kernel
theorem s_142_43 (cl : am_C) (a0 a1 a2 : Option am_V) (x : Int) (st : List am_V) (h : am_H) : am_go0 cl 142 43 [a0, a1, a2, some (.inl x)] st h = am_go0 cl 142 44 [a0, a1, a2, some (.inl x)] (.inl x :: st) h := am_r am_m142 d_142_43 rfl
theorem d_142_44 : am_code 142 44 = some (.iadd, 1) := by decide +kernel
theorem s_142_44 (cl : am_C) (ls : am_Ls) (x y : Int) (st : List am_V) (h : am_H) : am_go0 cl 142 44 ls (.inl y :: .inl x :: st) h = am_go0 cl 142 45 ls (.inl (am_wr (x + y)) :: st) h := am_r am_m142 d_142_44 rfl
theorem d_142_45 : am_code 142 45 = some (.iaload, 1) := by decide +kernel
theorem s_142_45 (cl : am_C) (ls : am_Ls) (i : Int) (k : Nat) (st : List am_V) (N : Nat) (I : Nat → Int → Int) (L : Nat → Int → Int64) : am_go0 cl 142 45 ls (.inl i :: .inr (.inr (some k)) :: st) (am_GS N, am_GR, I, L) = if am_inb (am_GS N) k 0 i = true then am_go0 cl 142 46 ls (.inl (I k i) :: st) (am_GS N, am_GR, I, L) else none := am_rA am_m142 d_142_45 (by decide) rfl k ls st i _ _ I L
theorem d_142_46 : am_code 142 46 = some (.iload_n 2, 1) := by decide +kernel
theorem s_142_46 (cl : am_C) (a0 a1 a3 : Option am_V) (x : Int) (st : List am_V) (h : am_H) : am_go0 cl 142 46 [a0, a1, some (.inl x), a3] st h = am_go0 cl 142 47 [a0, a1, some (.inl x), a3] (.inl x :: st) h := am_r am_m142 d_142_46 rfl
theorem d_142_47 : am_code 142 47 = some (.if_icmp .ne 6, 3) := by decide +kernel
theorem s_142_47 (cl : am_C) (ls : am_Ls) (x y : Int) (st : List am_V) (h : am_H) : am_go0 cl 142 47 ls (.inl y :: .inl x :: st) h = if x = y then am_go0 cl 142 50 ls st h else am_go0 cl 142 53 ls st h := (am_rJ0 am_m142 d_142_47 (by decide) rfl x y ls st h).trans (am_ifF ((am_cmp_ne x y).trans Iff.rfl) _ _)
theorem d_142_50 : am_code 142 50 = some (.bipush (-2), 2) := by decide +kernel
theorem s_142_50 (cl : am_C) (ls : am_Ls) (st : List am_V) (h : am_H) : am_go0 cl 142 50 ls st h = am_go0 cl 142 52 ls (.inl (-2) :: st) h := am_rB am_m142 d_142_50 (by decide) rfl _ _ _
theorem d_142_52 : am_code 142 52 = some (.ireturn, 1) := by decide +kernel
theorem s_142_52 (cl : am_C) (ls : am_Ls) (x : Int) (h : am_H) : am_go0 cl 142 52 ls [.inl x] h = some (some (.inl x), h) := am_rE am_m142 d_142_52 rfl
theorem d_142_53 : am_code 142 53 = some (.iinc 3 1, 3) := by decide +kernel
theorem s_142_53 (cl : am_C) (a0 a1 a2 : Option am_V) (x : Int) (st : List am_V) (h : am_H) : am_go0 cl 142 53 [a0, a1, a2, some (.inl x)] st h = am_go0 cl 142 56 [a0, a1, am_c1 a2, some (.inl (am_wr (x + 1)))] st h := am_r am_m142 d_142_53 rfl
theorem d_142_56 : am_code 142 56 = some (.goto (-30), 3) := by decide +kernel
theorem s_142_56 (cl : am_C) (ls : am_Ls) (st : List am_V) (h : am_H) : am_go0 cl 142 56 ls st h = am_go0 cl 142 26 ls st h := am_rGo am_m142 d_142_56 (by decide) _ _ _
theorem d_142_59 : am_code 142 59 = some (.aload_n 0, 1) := by decide +kernel
theorem s_142_59 (cl : am_C) (a1 a2 a3 : Option am_V) (x : Nat) (st : List am_V) (h : am_H) : am_go0 cl 142 59 [some (.inr (.inr (some x))), a1, a2, a3] st h = am_go0 cl 142 60 [some (.inr (.inr (some x))), a1, a2, a3] (.inr (.inr (some x)) :: st) h := am_r am_m142 d_142_59 rfl
theorem d_142_60 : am_code 142 60 = some (.getfield 38, 3) := by decide +kernel
theorem s_142_60 (cl : am_C) (ls : am_Ls) (st : List am_V) (N : Nat) (I : Nat → Int → Int) (L : Nat → Int → Int64) : am_go0 cl 142 60 ls (.inr (.inr (some 53)) :: st) (am_GS N, am_GR, I, L) = am_go0 cl 142 63 ls (.inr (.inr (some 62)) :: st) (am_GS N, am_GR, I, L) := am_rG2 am_m142 d_142_60 am_f9038 rfl (gs_53 N) (by decide) gr_53_11 rfl
theorem d_142_63 : am_code 142 63 = some (.iload_n 1, 1) := by decide +kernel
theorem s_142_63 (cl : am_C) (a0 a2 a3 : Option am_V) (x : Int) (st : List am_V) (h : am_H) : am_go0 cl 142 63 [a0, some (.inl x), a2, a3] st h = am_go0 cl 142 64 [a0, some (.inl x), a2, a3] (.inl x :: st) h := am_r am_m142 d_142_63 rfl
theorem d_142_64 : am_code 142 64 = some (.iaload, 1) := by decide +kernel
theorem s_142_64 (cl : am_C) (ls : am_Ls) (i : Int) (k : Nat) (st : List am_V) (N : Nat) (I : Nat → Int → Int) (L : Nat → Int → Int64) : am_go0 cl 142 64 ls (.inl i :: .inr (.inr (some k)) :: st) (am_GS N, am_GR, I, L) = if am_inb (am_GS N) k 0 i = true then am_go0 cl 142 65 ls (.inl (I k i) :: st) (am_GS N, am_GR, I, L) else none := am_rA am_m142 d_142_64 (by decide) rfl k ls st i _ _ I L
theorem d_142_65 : am_code 142 65 = some (.iconst 3, 1) := by decide +kernel
theorem s_142_65 (cl : am_C) (ls : am_Ls) (st : List am_V) (h : am_H) : am_go0 cl 142 65 ls st h = am_go0 cl 142 66 ls (.inl 3 :: st) h := am_rK am_m142 d_142_65 (by decide) rfl _ _ _
theorem d_142_66 : am_code 142 66 = some (.if_icmp .ne 6, 3) := by decide +kernel
theorem s_142_66 (cl : am_C) (ls : am_Ls) (x y : Int) (st : List am_V) (h : am_H) : am_go0 cl 142 66 ls (.inl y :: .inl x :: st) h = if x = y then am_go0 cl 142 69 ls st h else am_go0 cl 142 72 ls st h := (am_rJ0 am_m142 d_142_66 (by decide) rfl x y ls st h).trans (am_ifF ((am_cmp_ne x y).trans Iff.rfl) _ _)
theorem d_142_69 : am_code 142 69 = some (.bipush (-3), 2) := by decide +kernel
theorem s_142_69 (cl : am_C) (ls : am_Ls) (st : List am_V) (h : am_H) : am_go0 cl 142 69 ls st h = am_go0 cl 142 71 ls (.inl (-3) :: st) h := am_rB am_m142 d_142_69 (by decide) rfl _ _ _
theorem d_142_71 : am_code 142 71 = some (.ireturn, 1) := by decide +kernel
theorem s_142_71 (cl : am_C) (ls : am_Ls) (x : Int) (h : am_H) : am_go0 cl 142 71 ls [.inl x] h = some (some (.inl x), h) := am_rE am_m142 d_142_71 rfl
theorem d_142_72 : am_code 142 72 = some (.aload_n 0, 1) := by decide +kernel
theorem s_142_72 (cl : am_C) (a1 a2 a3 : Option am_V) (x : Nat) (st : List am_V) (h : am_H) : am_go0 cl 142 72 [some (.inr (.inr (some x))), a1, a2, a3] st h = am_go0 cl 142 73 [some (.inr (.inr (some x))), a1, a2, a3] (.inr (.inr (some x)) :: st) h := am_r am_m142 d_142_72 rfl
theorem d_142_73 : am_code 142 73 = some (.getfield 41, 3) := by decide +kernel
theorem s_142_73 (cl : am_C) (ls : am_Ls) (st : List am_V) (N : Nat) (I : Nat → Int → Int) (L : Nat → Int → Int64) : am_go0 cl 142 73 ls (.inr (.inr (some 53)) :: st) (am_GS N, am_GR, I, L) = am_go0 cl 142 76 ls (.inr (.inr (some 63)) :: st) (am_GS N, am_GR, I, L) := am_rG2 am_m142 d_142_73 am_f9041 rfl (gs_53 N) (by decide) gr_53_12 rfl
theorem d_142_76 : am_code 142 76 = some (.iconst 3, 1) := by decide +kernel
theorem s_142_76 (cl : am_C) (ls : am_Ls) (st : List am_V) (h : am_H) : am_go0 cl 142 76 ls st h = am_go0 cl 142 77 ls (.inl 3 :: st) h := am_rK am_m142 d_142_76 (by decide) rfl _ _ _
theorem d_142_77 : am_code 142 77 = some (.iload_n 1, 1) := by decide +kernel
theorem s_142_77 (cl : am_C) (a0 a2 a3 : Option am_V) (x : Int) (st : List am_V) (h : am_H) : am_go0 cl 142 77 [a0, some (.inl x), a2, a3] st h = am_go0 cl 142 78 [a0, some (.inl x), a2, a3] (.inl x :: st) h := am_r am_m142 d_142_77 rfl
theorem d_142_78 : am_code 142 78 = some (.imul, 1) := by decide +kernel
theorem s_142_78 (cl : am_C) (ls : am_Ls) (x y : Int) (st : List am_V) (h : am_H) : am_go0 cl 142 78 ls (.inl y :: .inl x :: st) h = am_go0 cl 142 79 ls (.inl (am_wr (x * y)) :: st) h := am_r am_m142 d_142_78 rfl
theorem d_142_79 : am_code 142 79 = some (.aload_n 0, 1) := by decide +kernel
theorem s_142_79 (cl : am_C) (a1 a2 a3 : Option am_V) (x : Nat) (st : List am_V) (h : am_H) : am_go0 cl 142 79 [some (.inr (.inr (some x))), a1, a2, a3] st h = am_go0 cl 142 80 [some (.inr (.inr (some x))), a1, a2, a3] (.inr (.inr (some x)) :: st) h := am_r am_m142 d_142_79 rfl
theorem d_142_80 : am_code 142 80 = some (.getfield 38, 3) := by decide +kernel
theorem s_142_80 (cl : am_C) (ls : am_Ls) (st : List am_V) (N : Nat) (I : Nat → Int → Int) (L : Nat → Int → Int64) : am_go0 cl 142 80 ls (.inr (.inr (some 53)) :: st) (am_GS N, am_GR, I, L) = am_go0 cl 142 83 ls (.inr (.inr (some 62)) :: st) (am_GS N, am_GR, I, L) := am_rG2 am_m142 d_142_80 am_f9038 rfl (gs_53 N) (by decide) gr_53_11 rfl
theorem d_142_83 : am_code 142 83 = some (.iload_n 1, 1) := by decide +kernel
theorem s_142_83 (cl : am_C) (a0 a2 a3 : Option am_V) (x : Int) (st : List am_V) (h : am_H) : am_go0 cl 142 83 [a0, some (.inl x), a2, a3] st h = am_go0 cl 142 84 [a0, some (.inl x), a2, a3] (.inl x :: st) h := am_r am_m142 d_142_83 rfl
theorem d_142_84 : am_code 142 84 = some (.iaload, 1) := by decide +kernel
theorem s_142_84 (cl : am_C) (ls : am_Ls) (i : Int) (k : Nat) (st : List am_V) (N : Nat) (I : Nat → Int → Int) (L : Nat → Int → Int64) : am_go0 cl 142 84 ls (.inl i :: .inr (.inr (some k)) :: st) (am_GS N, am_GR, I, L) = if am_inb (am_GS N) k 0 i = true then am_go0 cl 142 85 ls (.inl (I k i) :: st) (am_GS N, am_GR, I, L) else none := am_rA am_m142 d_142_84 (by decide) rfl k ls st i _ _ I L
theorem d_142_85 : am_code 142 85 = some (.iadd, 1) := by decide +kernel
theorem s_142_85 (cl : am_C) (ls : am_Ls) (x y : Int) (st : List am_V) (h : am_H) : am_go0 cl 142 85 ls (.inl y :: .inl x :: st) h = am_go0 cl 142 86 ls (.inl (am_wr (x + y)) :: st) h := am_r am_m142 d_142_85 rfl
theorem d_142_86 : am_code 142 86 = some (.iload_n 2, 1) := by decide +kernel
theorem s_142_86 (cl : am_C) (a0 a1 a3 : Option am_V) (x : Int) (st : List am_V) (h : am_H) : am_go0 cl 142 86 [a0, a1, some (.inl x), a3] st h = am_go0 cl 142 87 [a0, a1, some (.inl x), a3] (.inl x :: st) h := am_r am_m142 d_142_86 rfl
theorem d_142_87 : am_code 142 87 = some (.iastore, 1) := by decide +kernel
theorem s_142_87 (cl : am_C) (ls : am_Ls) (i : Int) (v : Int) (k : Nat) (st : List am_V) (N : Nat) (I : Nat → Int → Int) (L : Nat → Int → Int64) : am_go0 cl 142 87 ls (.inl v :: .inl i :: .inr (.inr (some k)) :: st) (am_GS N, am_GR, I, L) = if am_inb (am_GS N) k 0 i = true then am_go0 cl 142 88 ls st (am_GS N, am_GR, am_uI I k i v, L) else none := am_rS am_m142 d_142_87 rfl k ls st i v _ _ I L
theorem d_142_88 : am_code 142 88 = some (.aload_n 0, 1) := by decide +kernel
theorem s_142_88 (cl : am_C) (a1 a2 a3 : Option am_V) (x : Nat) (st : List am_V) (h : am_H) : am_go0 cl 142 88 [some (.inr (.inr (some x))), a1, a2, a3] st h = am_go0 cl 142 89 [some (.inr (.inr (some x))), a1, a2, a3] (.inr (.inr (some x)) :: st) h := am_r am_m142 d_142_88 rfl
theorem d_142_89 : am_code 142 89 = some (.getfield 38, 3) := by decide +kernel
theorem s_142_89 (cl : am_C) (ls : am_Ls) (st : List am_V) (N : Nat) (I : Nat → Int → Int) (L : Nat → Int → Int64) : am_go0 cl 142 89 ls (.inr (.inr (some 53)) :: st) (am_GS N, am_GR, I, L) = am_go0 cl 142 92 ls (.inr (.inr (some 62)) :: st) (am_GS N, am_GR, I, L) := am_rG2 am_m142 d_142_89 am_f9038 rfl (gs_53 N) (by decide) gr_53_11 rfl
theorem d_142_92 : am_code 142 92 = some (.iload_n 1, 1) := by decide +kernel
theorem s_142_92 (cl : am_C) (a0 a2 a3 : Option am_V) (x : Int) (st : List am_V) (h : am_H) : am_go0 cl 142 92 [a0, some (.inl x), a2, a3] st h = am_go0 cl 142 93 [a0, some (.inl x), a2, a3] (.inl x :: st) h := am_r am_m142 d_142_92 rfl
theorem d_142_93 : am_code 142 93 = some (.dup2, 1) := by decide +kernel
theorem s_142_93 (cl : am_C) (ls : am_Ls) (x : Int) (y : Nat) (st : List am_V) (h : am_H) : am_go0 cl 142 93 ls (.inl x :: .inr (.inr (some y)) :: st) h = am_go0 cl 142 94 ls (.inl x :: .inr (.inr (some y)) :: .inl x :: .inr (.inr (some y)) :: st) h := am_r am_m142 d_142_93 rfl
theorem d_142_94 : am_code 142 94 = some (.iaload, 1) := by decide +kernel
theorem s_142_94 (cl : am_C) (ls : am_Ls) (i : Int) (k : Nat) (st : List am_V) (N : Nat) (I : Nat → Int → Int) (L : Nat → Int → Int64) : am_go0 cl 142 94 ls (.inl i :: .inr (.inr (some k)) :: st) (am_GS N, am_GR, I, L) = if am_inb (am_GS N) k 0 i = true then am_go0 cl 142 95 ls (.inl (I k i) :: st) (am_GS N, am_GR, I, L) else none := am_rA am_m142 d_142_94 (by decide) rfl k ls st i _ _ I L
theorem d_142_95 : am_code 142 95 = some (.iconst 1, 1) := by decide +kernel
theorem s_142_95 (cl : am_C) (ls : am_Ls) (st : List am_V) (h : am_H) : am_go0 cl 142 95 ls st h = am_go0 cl 142 96 ls (.inl 1 :: st) h := am_rK am_m142 d_142_95 (by decide) rfl _ _ _
theorem d_142_96 : am_code 142 96 = some (.iadd, 1) := by decide +kernel
theorem s_142_96 (cl : am_C) (ls : am_Ls) (x y : Int) (st : List am_V) (h : am_H) : am_go0 cl 142 96 ls (.inl y :: .inl x :: st) h = am_go0 cl 142 97 ls (.inl (am_wr (x + y)) :: st) h := am_r am_m142 d_142_96 rfl
theorem d_142_97 : am_code 142 97 = some (.iastore, 1) := by decide +kernel
theorem s_142_97 (cl : am_C) (ls : am_Ls) (i : Int) (v : Int) (k : Nat) (st : List am_V) (N : Nat) (I : Nat → Int → Int) (L : Nat → Int → Int64) : am_go0 cl 142 97 ls (.inl v :: .inl i :: .inr (.inr (some k)) :: st) (am_GS N, am_GR, I, L) = if am_inb (am_GS N) k 0 i = true then am_go0 cl 142 98 ls st (am_GS N, am_GR, am_uI I k i v, L) else none := am_rS am_m142 d_142_97 rfl k ls st i v _ _ I L
theorem d_142_98 : am_code 142 98 = some (.aload_n 0, 1) := by decide +kernel
theorem s_142_98 (cl : am_C) (a1 a2 a3 : Option am_V) (x : Nat) (st : List am_V) (h : am_H) : am_go0 cl 142 98 [some (.inr (.inr (some x))), a1, a2, a3] st h = am_go0 cl 142 99 [some (.inr (.inr (some x))), a1, a2, a3] (.inr (.inr (some x)) :: st) h := am_r am_m142 d_142_98 rfl
theorem d_142_99 : am_code 142 99 = some (.aload_n 0, 1) := by decide +kernel
theorem s_142_99 (cl : am_C) (a1 a2 a3 : Option am_V) (x : Nat) (st : List am_V) (h : am_H) : am_go0 cl 142 99 [some (.inr (.inr (some x))), a1, a2, a3] st h = am_go0 cl 142 100 [some (.inr (.inr (some x))), a1, a2, a3] (.inr (.inr (some x)) :: st) h := am_r am_m142 d_142_99 rfl
theorem d_142_100 : am_code 142 100 = some (.getfield 38, 3) := by decide +kernel
theorem s_142_100 (cl : am_C) (ls : am_Ls) (st : List am_V) (N : Nat) (I : Nat → Int → Int) (L : Nat → Int → Int64) : am_go0 cl 142 100 ls (.inr (.inr (some 53)) :: st) (am_GS N, am_GR, I, L) = am_go0 cl 142 103 ls (.inr (.inr (some 62)) :: st) (am_GS N, am_GR, I, L) := am_rG2 am_m142 d_142_100 am_f9038 rfl (gs_53 N) (by decide) gr_53_11 rfl
theorem d_142_103 : am_code 142 103 = some (.iload_n 1, 1) := by decide +kernel
theorem s_142_103 (cl : am_C) (a0 a2 a3 : Option am_V) (x : Int) (st : List am_V) (h : am_H) : am_go0 cl 142 103 [a0, some (.inl x), a2, a3] st h = am_go0 cl 142 104 [a0, some (.inl x), a2, a3] (.inl x :: st) h := am_r am_m142 d_142_103 rfl
theorem d_142_104 : am_code 142 104 = some (.iaload, 1) := by decide +kernel
theorem s_142_104 (cl : am_C) (ls : am_Ls) (i : Int) (k : Nat) (st : List am_V) (N : Nat) (I : Nat → Int → Int) (L : Nat → Int → Int64) : am_go0 cl 142 104 ls (.inl i :: .inr (.inr (some k)) :: st) (am_GS N, am_GR, I, L) = if am_inb (am_GS N) k 0 i = true then am_go0 cl 142 105 ls (.inl (I k i) :: st) (am_GS N, am_GR, I, L) else none := am_rA am_m142 d_142_104 (by decide) rfl k ls st i _ _ I L
theorem d_142_105 : am_code 142 105 = some (.invokevirtual 175, 3) := by decide +kernel
theorem s_142_105 (cl : am_C) (ls : am_Ls) (x0 : Int) (N : Nat) (I : Nat → Int → Int) (L : Nat → Int → Int64) : am_go0 cl 142 105 ls [.inl x0, .inr (.inr (some 53))] (am_GS N, am_GR, I, L) = am_bd (cl 141 [.inr (.inr (some 53)), .inl x0] (am_GS N, am_GR, I, L)) (fun v h2 => am_go0 cl 142 108 ls (v.toList ++ []) h2) := am_rV am_m142 d_142_105 am_k9175 rfl am_m141 (gs_53 N) (by decide) (Nat.le_of_ble_eq_true rfl) rfl ls
theorem d_142_108 : am_code 142 108 = some (.ireturn, 1) := by decide +kernel
theorem s_142_108 (cl : am_C) (ls : am_Ls) (x : Int) (h : am_H) : am_go0 cl 142 108 ls [.inl x] h = some (some (.inl x), h) := am_rE am_m142 d_142_108 rfl
theorem e_142 (d : Nat) (t : Nat) (p0 : Int) (p1 : Int) (h : am_H) : am_call (d + 1) 142 [.inr (.inr (some t)), .inl p0, .inl p1] h = am_go0 (am_call d) 142 0 [some (.inr (.inr (some t))), some (.inl p0), some (.inl p1), none] [] h := am_callE am_m142 (Nat.le_of_ble_eq_true rfl) rfl
theorem d_143_0 : am_code 143 0 = some (.iload_n 1, 1) := by decide +kernel
theorem s_143_0 (cl : am_C) (a0 : Option am_V) (x : Int) (st : List am_V) (h : am_H) : am_go0 cl 143 0 [a0, some (.inl x)] st h = am_go0 cl 143 1 [a0, some (.inl x)] (.inl x :: st) h := am_r am_m143 d_143_0 rfl
theorem d_143_1 : am_code 143 1 = some (.iconst 0, 1) := by decide +kernel
theorem s_143_1 (cl : am_C) (ls : am_Ls) (st : List am_V) (h : am_H) : am_go0 cl 143 1 ls st h = am_go0 cl 143 2 ls (.inl 0 :: st) h := am_rK am_m143 d_143_1 (by decide) rfl _ _ _
theorem d_143_2 : am_code 143 2 = some (.aload_n 0, 1) := by decide +kernel
theorem s_143_2 (cl : am_C) (a1 : Option am_V) (x : Nat) (st : List am_V) (h : am_H) : am_go0 cl 143 2 [some (.inr (.inr (some x))), a1] st h = am_go0 cl 143 3 [some (.inr (.inr (some x))), a1] (.inr (.inr (some x)) :: st) h := am_r am_m143 d_143_2 rfl
theorem d_143_3 : am_code 143 3 = some (.getfield 166, 3) := by decide +kernel
theorem s_143_3 (cl : am_C) (ls : am_Ls) (st : List am_V) (N : Nat) (I : Nat → Int → Int) (L : Nat → Int → Int64) : am_go0 cl 143 3 ls (.inr (.inr (some 53)) :: st) (am_GS N, am_GR, I, L) = am_go0 cl 143 6 ls (.inl (I 53 9) :: st) (am_GS N, am_GR, I, L) := am_rG0 am_m143 d_143_3 am_f9166 rfl (gs_53 N) (by decide) rfl
theorem d_143_6 : am_code 143 6 = some (.iconst 1, 1) := by decide +kernel
theorem s_143_6 (cl : am_C) (ls : am_Ls) (st : List am_V) (h : am_H) : am_go0 cl 143 6 ls st h = am_go0 cl 143 7 ls (.inl 1 :: st) h := am_rK am_m143 d_143_6 (by decide) rfl _ _ _
theorem d_143_7 : am_code 143 7 = some (.isub, 1) := by decide +kernel
theorem s_143_7 (cl : am_C) (ls : am_Ls) (x y : Int) (st : List am_V) (h : am_H) : am_go0 cl 143 7 ls (.inl y :: .inl x :: st) h = am_go0 cl 143 8 ls (.inl (am_wr (x - y)) :: st) h := am_r am_m143 d_143_7 rfl
theorem d_143_8 : am_code 143 8 = some (.invokestatic 151, 3) := by decide +kernel
theorem s_143_8 (cl : am_C) (ls : am_Ls) (x0 : Int) (x1 : Int) (x2 : Int) (h : am_H) : am_go0 cl 143 8 ls [.inl x2, .inl x1, .inl x0] h = am_bd (cl 135 [.inl x0, .inl x1, .inl x2] h) (fun v h2 => am_go0 cl 143 11 ls (v.toList ++ []) h2) := am_rVs am_m143 d_143_8 am_k9151 rfl (Nat.le_of_ble_eq_true rfl) rfl ls
theorem d_143_11 : am_code 143 11 = some (.ireturn, 1) := by decide +kernel
theorem s_143_11 (cl : am_C) (ls : am_Ls) (x : Int) (h : am_H) : am_go0 cl 143 11 ls [.inl x] h = if x = 0 ∨ x = 1 then some (some (.inl x), h) else none := am_rRz am_m143 d_143_11 x ls h
theorem e_143 (d : Nat) (t : Nat) (p0 : Int) (h : am_H) : am_call (d + 1) 143 [.inr (.inr (some t)), .inl p0] h = am_go0 (am_call d) 143 0 [some (.inr (.inr (some t))), some (.inl p0)] [] h := am_callE am_m143 (Nat.le_of_ble_eq_true rfl) rfl
theorem d_144_0 : am_code 144 0 = some (.aload_n 0, 1) := by decide +kernel
theorem s_144_0 (cl : am_C) (a1 a2 a3 : Option am_V) (x : Nat) (st : List am_V) (h : am_H) : am_go0 cl 144 0 [some (.inr (.inr (some x))), a1, a2, a3] st h = am_go0 cl 144 1 [some (.inr (.inr (some x))), a1, a2, a3] (.inr (.inr (some x)) :: st) h := am_r am_m144 d_144_0 rfl
theorem d_144_1 : am_code 144 1 = some (.iload_n 1, 1) := by decide +kernel
theorem s_144_1 (cl : am_C) (a0 a2 a3 : Option am_V) (x : Int) (st : List am_V) (h : am_H) : am_go0 cl 144 1 [a0, some (.inl x), a2, a3] st h = am_go0 cl 144 2 [a0, some (.inl x), a2, a3] (.inl x :: st) h := am_r am_m144 d_144_1 rfl
theorem d_144_2 : am_code 144 2 = some (.invokevirtual 179, 3) := by decide +kernel
theorem s_144_2 (cl : am_C) (ls : am_Ls) (x0 : Int) (N : Nat) (I : Nat → Int → Int) (L : Nat → Int → Int64) : am_go0 cl 144 2 ls [.inl x0, .inr (.inr (some 53))] (am_GS N, am_GR, I, L) = am_bd (cl 143 [.inr (.inr (some 53)), .inl x0] (am_GS N, am_GR, I, L)) (fun v h2 => am_go0 cl 144 5 ls (v.toList ++ []) h2) := am_rV am_m144 d_144_2 am_k9179 rfl am_m143 (gs_53 N) (by decide) (Nat.le_of_ble_eq_true rfl) rfl ls
theorem d_144_5 : am_code 144 5 = some (.ifCond .eq 27, 3) := by decide +kernel
theorem s_144_5 (cl : am_C) (ls : am_Ls) (x : Int) (st : List am_V) (h : am_H) : am_go0 cl 144 5 ls (.inl x :: st) h = if x = 0 then am_go0 cl 144 32 ls st h else am_go0 cl 144 8 ls st h := (am_rJ1 am_m144 d_144_5 (by decide) rfl x ls st h).trans (am_ifT (am_cmp_eq x 0) _ _)
theorem d_144_8 : am_code 144 8 = some (.iload_n 2, 1) := by decide +kernel
theorem s_144_8 (cl : am_C) (a0 a1 a3 : Option am_V) (x : Int) (st : List am_V) (h : am_H) : am_go0 cl 144 8 [a0, a1, some (.inl x), a3] st h = am_go0 cl 144 9 [a0, a1, some (.inl x), a3] (.inl x :: st) h := am_r am_m144 d_144_8 rfl
theorem d_144_9 : am_code 144 9 = some (.iconst 0, 1) := by decide +kernel
theorem s_144_9 (cl : am_C) (ls : am_Ls) (st : List am_V) (h : am_H) : am_go0 cl 144 9 ls st h = am_go0 cl 144 10 ls (.inl 0 :: st) h := am_rK am_m144 d_144_9 (by decide) rfl _ _ _
theorem d_144_10 : am_code 144 10 = some (.aload_n 0, 1) := by decide +kernel
theorem s_144_10 (cl : am_C) (a1 a2 a3 : Option am_V) (x : Nat) (st : List am_V) (h : am_H) : am_go0 cl 144 10 [some (.inr (.inr (some x))), a1, a2, a3] st h = am_go0 cl 144 11 [some (.inr (.inr (some x))), a1, a2, a3] (.inr (.inr (some x)) :: st) h := am_r am_m144 d_144_10 rfl
theorem d_144_11 : am_code 144 11 = some (.getfield 155, 3) := by decide +kernel
theorem s_144_11 (cl : am_C) (ls : am_Ls) (st : List am_V) (N : Nat) (I : Nat → Int → Int) (L : Nat → Int → Int64) : am_go0 cl 144 11 ls (.inr (.inr (some 53)) :: st) (am_GS N, am_GR, I, L) = am_go0 cl 144 14 ls (.inl (I 53 0) :: st) (am_GS N, am_GR, I, L) := am_rG0 am_m144 d_144_11 am_f9155 rfl (gs_53 N) (by decide) rfl
theorem d_144_14 : am_code 144 14 = some (.iconst 1, 1) := by decide +kernel
theorem s_144_14 (cl : am_C) (ls : am_Ls) (st : List am_V) (h : am_H) : am_go0 cl 144 14 ls st h = am_go0 cl 144 15 ls (.inl 1 :: st) h := am_rK am_m144 d_144_14 (by decide) rfl _ _ _
theorem d_144_15 : am_code 144 15 = some (.isub, 1) := by decide +kernel
theorem s_144_15 (cl : am_C) (ls : am_Ls) (x y : Int) (st : List am_V) (h : am_H) : am_go0 cl 144 15 ls (.inl y :: .inl x :: st) h = am_go0 cl 144 16 ls (.inl (am_wr (x - y)) :: st) h := am_r am_m144 d_144_15 rfl
theorem d_144_16 : am_code 144 16 = some (.invokestatic 151, 3) := by decide +kernel
theorem s_144_16 (cl : am_C) (ls : am_Ls) (x0 : Int) (x1 : Int) (x2 : Int) (h : am_H) : am_go0 cl 144 16 ls [.inl x2, .inl x1, .inl x0] h = am_bd (cl 135 [.inl x0, .inl x1, .inl x2] h) (fun v h2 => am_go0 cl 144 19 ls (v.toList ++ []) h2) := am_rVs am_m144 d_144_16 am_k9151 rfl (Nat.le_of_ble_eq_true rfl) rfl ls
theorem d_144_19 : am_code 144 19 = some (.ifCond .eq 13, 3) := by decide +kernel
theorem s_144_19 (cl : am_C) (ls : am_Ls) (x : Int) (st : List am_V) (h : am_H) : am_go0 cl 144 19 ls (.inl x :: st) h = if x = 0 then am_go0 cl 144 32 ls st h else am_go0 cl 144 22 ls st h := (am_rJ1 am_m144 d_144_19 (by decide) rfl x ls st h).trans (am_ifT (am_cmp_eq x 0) _ _)
theorem d_144_22 : am_code 144 22 = some (.aload_n 0, 1) := by decide +kernel
theorem s_144_22 (cl : am_C) (a1 a2 a3 : Option am_V) (x : Nat) (st : List am_V) (h : am_H) : am_go0 cl 144 22 [some (.inr (.inr (some x))), a1, a2, a3] st h = am_go0 cl 144 23 [some (.inr (.inr (some x))), a1, a2, a3] (.inr (.inr (some x)) :: st) h := am_r am_m144 d_144_22 rfl
theorem d_144_23 : am_code 144 23 = some (.iload_n 1, 1) := by decide +kernel
theorem s_144_23 (cl : am_C) (a0 a2 a3 : Option am_V) (x : Int) (st : List am_V) (h : am_H) : am_go0 cl 144 23 [a0, some (.inl x), a2, a3] st h = am_go0 cl 144 24 [a0, some (.inl x), a2, a3] (.inl x :: st) h := am_r am_m144 d_144_23 rfl
theorem d_144_24 : am_code 144 24 = some (.iload_n 2, 1) := by decide +kernel
theorem s_144_24 (cl : am_C) (a0 a1 a3 : Option am_V) (x : Int) (st : List am_V) (h : am_H) : am_go0 cl 144 24 [a0, a1, some (.inl x), a3] st h = am_go0 cl 144 25 [a0, a1, some (.inl x), a3] (.inl x :: st) h := am_r am_m144 d_144_24 rfl
theorem d_144_25 : am_code 144 25 = some (.invokevirtual 182, 3) := by decide +kernel
theorem s_144_25 (cl : am_C) (ls : am_Ls) (x0 : Int) (x1 : Int) (N : Nat) (I : Nat → Int → Int) (L : Nat → Int → Int64) : am_go0 cl 144 25 ls [.inl x1, .inl x0, .inr (.inr (some 53))] (am_GS N, am_GR, I, L) = am_bd (cl 145 [.inr (.inr (some 53)), .inl x0, .inl x1] (am_GS N, am_GR, I, L)) (fun v h2 => am_go0 cl 144 28 ls (v.toList ++ []) h2) := am_rV am_m144 d_144_25 am_k9182 rfl am_m145 (gs_53 N) (by decide) (Nat.le_of_ble_eq_true rfl) rfl ls
theorem d_144_28 : am_code 144 28 = some (.iconst (-1), 1) := by decide +kernel
theorem s_144_28 (cl : am_C) (ls : am_Ls) (st : List am_V) (h : am_H) : am_go0 cl 144 28 ls st h = am_go0 cl 144 29 ls (.inl (-1) :: st) h := am_rK am_m144 d_144_28 (by decide) rfl _ _ _
theorem d_144_29 : am_code 144 29 = some (.if_icmp .eq 6, 3) := by decide +kernel
theorem s_144_29 (cl : am_C) (ls : am_Ls) (x y : Int) (st : List am_V) (h : am_H) : am_go0 cl 144 29 ls (.inl y :: .inl x :: st) h = if x = y then am_go0 cl 144 35 ls st h else am_go0 cl 144 32 ls st h := (am_rJ0 am_m144 d_144_29 (by decide) rfl x y ls st h).trans (am_ifT (am_cmp_eq x y) _ _)
theorem d_144_32 : am_code 144 32 = some (.bipush (-2), 2) := by decide +kernel
theorem s_144_32 (cl : am_C) (ls : am_Ls) (st : List am_V) (h : am_H) : am_go0 cl 144 32 ls st h = am_go0 cl 144 34 ls (.inl (-2) :: st) h := am_rB am_m144 d_144_32 (by decide) rfl _ _ _
theorem d_144_34 : am_code 144 34 = some (.ireturn, 1) := by decide +kernel
theorem s_144_34 (cl : am_C) (ls : am_Ls) (x : Int) (h : am_H) : am_go0 cl 144 34 ls [.inl x] h = some (some (.inl x), h) := am_rE am_m144 d_144_34 rfl
theorem d_144_35 : am_code 144 35 = some (.aload_n 0, 1) := by decide +kernel
theorem s_144_35 (cl : am_C) (a1 a2 a3 : Option am_V) (x : Nat) (st : List am_V) (h : am_H) : am_go0 cl 144 35 [some (.inr (.inr (some x))), a1, a2, a3] st h = am_go0 cl 144 36 [some (.inr (.inr (some x))), a1, a2, a3] (.inr (.inr (some x)) :: st) h := am_r am_m144 d_144_35 rfl
theorem d_144_36 : am_code 144 36 = some (.getfield 169, 3) := by decide +kernel
theorem s_144_36 (cl : am_C) (ls : am_Ls) (st : List am_V) (N : Nat) (I : Nat → Int → Int) (L : Nat → Int → Int64) : am_go0 cl 144 36 ls (.inr (.inr (some 53)) :: st) (am_GS N, am_GR, I, L) = am_go0 cl 144 39 ls (.inl (I 53 14) :: st) (am_GS N, am_GR, I, L) := am_rG0 am_m144 d_144_36 am_f9169 rfl (gs_53 N) (by decide) rfl
theorem d_144_39 : am_code 144 39 = some (.bipush 20, 2) := by decide +kernel
theorem s_144_39 (cl : am_C) (ls : am_Ls) (st : List am_V) (h : am_H) : am_go0 cl 144 39 ls st h = am_go0 cl 144 41 ls (.inl 20 :: st) h := am_rB am_m144 d_144_39 (by decide) rfl _ _ _
theorem d_144_41 : am_code 144 41 = some (.if_icmp .ne 6, 3) := by decide +kernel
theorem s_144_41 (cl : am_C) (ls : am_Ls) (x y : Int) (st : List am_V) (h : am_H) : am_go0 cl 144 41 ls (.inl y :: .inl x :: st) h = if x = y then am_go0 cl 144 44 ls st h else am_go0 cl 144 47 ls st h := (am_rJ0 am_m144 d_144_41 (by decide) rfl x y ls st h).trans (am_ifF ((am_cmp_ne x y).trans Iff.rfl) _ _)
theorem d_144_44 : am_code 144 44 = some (.bipush (-3), 2) := by decide +kernel
theorem s_144_44 (cl : am_C) (ls : am_Ls) (st : List am_V) (h : am_H) : am_go0 cl 144 44 ls st h = am_go0 cl 144 46 ls (.inl (-3) :: st) h := am_rB am_m144 d_144_44 (by decide) rfl _ _ _
theorem d_144_46 : am_code 144 46 = some (.ireturn, 1) := by decide +kernel
theorem s_144_46 (cl : am_C) (ls : am_Ls) (x : Int) (h : am_H) : am_go0 cl 144 46 ls [.inl x] h = some (some (.inl x), h) := am_rE am_m144 d_144_46 rfl
theorem d_144_47 : am_code 144 47 = some (.aload_n 0, 1) := by decide +kernel
theorem s_144_47 (cl : am_C) (a1 a2 a3 : Option am_V) (x : Nat) (st : List am_V) (h : am_H) : am_go0 cl 144 47 [some (.inr (.inr (some x))), a1, a2, a3] st h = am_go0 cl 144 48 [some (.inr (.inr (some x))), a1, a2, a3] (.inr (.inr (some x)) :: st) h := am_r am_m144 d_144_47 rfl
theorem d_144_48 : am_code 144 48 = some (.getfield 47, 3) := by decide +kernel
theorem s_144_48 (cl : am_C) (ls : am_Ls) (st : List am_V) (N : Nat) (I : Nat → Int → Int) (L : Nat → Int → Int64) : am_go0 cl 144 48 ls (.inr (.inr (some 53)) :: st) (am_GS N, am_GR, I, L) = am_go0 cl 144 51 ls (.inr (.inr (some 65)) :: st) (am_GS N, am_GR, I, L) := am_rG2 am_m144 d_144_48 am_f9047 rfl (gs_53 N) (by decide) gr_53_15 rfl
theorem d_144_51 : am_code 144 51 = some (.aload_n 0, 1) := by decide +kernel
theorem s_144_51 (cl : am_C) (a1 a2 a3 : Option am_V) (x : Nat) (st : List am_V) (h : am_H) : am_go0 cl 144 51 [some (.inr (.inr (some x))), a1, a2, a3] st h = am_go0 cl 144 52 [some (.inr (.inr (some x))), a1, a2, a3] (.inr (.inr (some x)) :: st) h := am_r am_m144 d_144_51 rfl
theorem d_144_52 : am_code 144 52 = some (.getfield 169, 3) := by decide +kernel
theorem s_144_52 (cl : am_C) (ls : am_Ls) (st : List am_V) (N : Nat) (I : Nat → Int → Int) (L : Nat → Int → Int64) : am_go0 cl 144 52 ls (.inr (.inr (some 53)) :: st) (am_GS N, am_GR, I, L) = am_go0 cl 144 55 ls (.inl (I 53 14) :: st) (am_GS N, am_GR, I, L) := am_rG0 am_m144 d_144_52 am_f9169 rfl (gs_53 N) (by decide) rfl
theorem d_144_55 : am_code 144 55 = some (.iload_n 1, 1) := by decide +kernel
theorem s_144_55 (cl : am_C) (a0 a2 a3 : Option am_V) (x : Int) (st : List am_V) (h : am_H) : am_go0 cl 144 55 [a0, some (.inl x), a2, a3] st h = am_go0 cl 144 56 [a0, some (.inl x), a2, a3] (.inl x :: st) h := am_r am_m144 d_144_55 rfl
theorem d_144_56 : am_code 144 56 = some (.iastore, 1) := by decide +kernel
theorem s_144_56 (cl : am_C) (ls : am_Ls) (i : Int) (v : Int) (k : Nat) (st : List am_V) (N : Nat) (I : Nat → Int → Int) (L : Nat → Int → Int64) : am_go0 cl 144 56 ls (.inl v :: .inl i :: .inr (.inr (some k)) :: st) (am_GS N, am_GR, I, L) = if am_inb (am_GS N) k 0 i = true then am_go0 cl 144 57 ls st (am_GS N, am_GR, am_uI I k i v, L) else none := am_rS am_m144 d_144_56 rfl k ls st i v _ _ I L
theorem d_144_57 : am_code 144 57 = some (.aload_n 0, 1) := by decide +kernel
theorem s_144_57 (cl : am_C) (a1 a2 a3 : Option am_V) (x : Nat) (st : List am_V) (h : am_H) : am_go0 cl 144 57 [some (.inr (.inr (some x))), a1, a2, a3] st h = am_go0 cl 144 58 [some (.inr (.inr (some x))), a1, a2, a3] (.inr (.inr (some x)) :: st) h := am_r am_m144 d_144_57 rfl
theorem d_144_58 : am_code 144 58 = some (.getfield 50, 3) := by decide +kernel
theorem s_144_58 (cl : am_C) (ls : am_Ls) (st : List am_V) (N : Nat) (I : Nat → Int → Int) (L : Nat → Int → Int64) : am_go0 cl 144 58 ls (.inr (.inr (some 53)) :: st) (am_GS N, am_GR, I, L) = am_go0 cl 144 61 ls (.inr (.inr (some 66)) :: st) (am_GS N, am_GR, I, L) := am_rG2 am_m144 d_144_58 am_f9050 rfl (gs_53 N) (by decide) gr_53_16 rfl
theorem d_144_61 : am_code 144 61 = some (.aload_n 0, 1) := by decide +kernel
theorem s_144_61 (cl : am_C) (a1 a2 a3 : Option am_V) (x : Nat) (st : List am_V) (h : am_H) : am_go0 cl 144 61 [some (.inr (.inr (some x))), a1, a2, a3] st h = am_go0 cl 144 62 [some (.inr (.inr (some x))), a1, a2, a3] (.inr (.inr (some x)) :: st) h := am_r am_m144 d_144_61 rfl
theorem d_144_62 : am_code 144 62 = some (.getfield 169, 3) := by decide +kernel
theorem s_144_62 (cl : am_C) (ls : am_Ls) (st : List am_V) (N : Nat) (I : Nat → Int → Int) (L : Nat → Int → Int64) : am_go0 cl 144 62 ls (.inr (.inr (some 53)) :: st) (am_GS N, am_GR, I, L) = am_go0 cl 144 65 ls (.inl (I 53 14) :: st) (am_GS N, am_GR, I, L) := am_rG0 am_m144 d_144_62 am_f9169 rfl (gs_53 N) (by decide) rfl
theorem d_144_65 : am_code 144 65 = some (.iload_n 2, 1) := by decide +kernel
theorem s_144_65 (cl : am_C) (a0 a1 a3 : Option am_V) (x : Int) (st : List am_V) (h : am_H) : am_go0 cl 144 65 [a0, a1, some (.inl x), a3] st h = am_go0 cl 144 66 [a0, a1, some (.inl x), a3] (.inl x :: st) h := am_r am_m144 d_144_65 rfl
theorem d_144_66 : am_code 144 66 = some (.iastore, 1) := by decide +kernel
theorem s_144_66 (cl : am_C) (ls : am_Ls) (i : Int) (v : Int) (k : Nat) (st : List am_V) (N : Nat) (I : Nat → Int → Int) (L : Nat → Int → Int64) : am_go0 cl 144 66 ls (.inl v :: .inl i :: .inr (.inr (some k)) :: st) (am_GS N, am_GR, I, L) = if am_inb (am_GS N) k 0 i = true then am_go0 cl 144 67 ls st (am_GS N, am_GR, am_uI I k i v, L) else none := am_rS am_m144 d_144_66 rfl k ls st i v _ _ I L
theorem d_144_67 : am_code 144 67 = some (.aload_n 0, 1) := by decide +kernel
theorem s_144_67 (cl : am_C) (a1 a2 a3 : Option am_V) (x : Nat) (st : List am_V) (h : am_H) : am_go0 cl 144 67 [some (.inr (.inr (some x))), a1, a2, a3] st h = am_go0 cl 144 68 [some (.inr (.inr (some x))), a1, a2, a3] (.inr (.inr (some x)) :: st) h := am_r am_m144 d_144_67 rfl
theorem d_144_68 : am_code 144 68 = some (.getfield 53, 3) := by decide +kernel
theorem s_144_68 (cl : am_C) (ls : am_Ls) (st : List am_V) (N : Nat) (I : Nat → Int → Int) (L : Nat → Int → Int64) : am_go0 cl 144 68 ls (.inr (.inr (some 53)) :: st) (am_GS N, am_GR, I, L) = am_go0 cl 144 71 ls (.inr (.inr (some 67)) :: st) (am_GS N, am_GR, I, L) := am_rG2 am_m144 d_144_68 am_f9053 rfl (gs_53 N) (by decide) gr_53_17 rfl
theorem d_144_71 : am_code 144 71 = some (.aload_n 0, 1) := by decide +kernel
theorem s_144_71 (cl : am_C) (a1 a2 a3 : Option am_V) (x : Nat) (st : List am_V) (h : am_H) : am_go0 cl 144 71 [some (.inr (.inr (some x))), a1, a2, a3] st h = am_go0 cl 144 72 [some (.inr (.inr (some x))), a1, a2, a3] (.inr (.inr (some x)) :: st) h := am_r am_m144 d_144_71 rfl
theorem d_144_72 : am_code 144 72 = some (.getfield 169, 3) := by decide +kernel
theorem s_144_72 (cl : am_C) (ls : am_Ls) (st : List am_V) (N : Nat) (I : Nat → Int → Int) (L : Nat → Int → Int64) : am_go0 cl 144 72 ls (.inr (.inr (some 53)) :: st) (am_GS N, am_GR, I, L) = am_go0 cl 144 75 ls (.inl (I 53 14) :: st) (am_GS N, am_GR, I, L) := am_rG0 am_m144 d_144_72 am_f9169 rfl (gs_53 N) (by decide) rfl
theorem d_144_75 : am_code 144 75 = some (.iconst 0, 1) := by decide +kernel
theorem s_144_75 (cl : am_C) (ls : am_Ls) (st : List am_V) (h : am_H) : am_go0 cl 144 75 ls st h = am_go0 cl 144 76 ls (.inl 0 :: st) h := am_rK am_m144 d_144_75 (by decide) rfl _ _ _
theorem d_144_76 : am_code 144 76 = some (.iastore, 1) := by decide +kernel
theorem s_144_76 (cl : am_C) (ls : am_Ls) (i : Int) (v : Int) (k : Nat) (st : List am_V) (N : Nat) (I : Nat → Int → Int) (L : Nat → Int → Int64) : am_go0 cl 144 76 ls (.inl v :: .inl i :: .inr (.inr (some k)) :: st) (am_GS N, am_GR, I, L) = if am_inb (am_GS N) k 0 i = true then am_go0 cl 144 77 ls st (am_GS N, am_GR, am_uI I k i v, L) else none := am_rS am_m144 d_144_76 rfl k ls st i v _ _ I L
theorem d_144_77 : am_code 144 77 = some (.iconst 0, 1) := by decide +kernel
theorem s_144_77 (cl : am_C) (ls : am_Ls) (st : List am_V) (h : am_H) : am_go0 cl 144 77 ls st h = am_go0 cl 144 78 ls (.inl 0 :: st) h := am_rK am_m144 d_144_77 (by decide) rfl _ _ _
theorem d_144_78 : am_code 144 78 = some (.istore_n 3, 1) := by decide +kernel
theorem s_144_78 (cl : am_C) (a0 a1 a2 a3 : Option am_V) (x : Int) (st : List am_V) (h : am_H) : am_go0 cl 144 78 [a0, a1, a2, a3] (.inl x :: st) h = am_go0 cl 144 79 [a0, a1, am_c1 a2, some (.inl x)] st h := am_r am_m144 d_144_78 rfl
theorem d_144_79 : am_code 144 79 = some (.iload_n 3, 1) := by decide +kernel
theorem s_144_79 (cl : am_C) (a0 a1 a2 : Option am_V) (x : Int) (st : List am_V) (h : am_H) : am_go0 cl 144 79 [a0, a1, a2, some (.inl x)] st h = am_go0 cl 144 80 [a0, a1, a2, some (.inl x)] (.inl x :: st) h := am_r am_m144 d_144_79 rfl
theorem d_144_80 : am_code 144 80 = some (.iconst 4, 1) := by decide +kernel
theorem s_144_80 (cl : am_C) (ls : am_Ls) (st : List am_V) (h : am_H) : am_go0 cl 144 80 ls st h = am_go0 cl 144 81 ls (.inl 4 :: st) h := am_rK am_m144 d_144_80 (by decide) rfl _ _ _
theorem d_144_81 : am_code 144 81 = some (.if_icmp .ge 23, 3) := by decide +kernel
theorem s_144_81 (cl : am_C) (ls : am_Ls) (x y : Int) (st : List am_V) (h : am_H) : am_go0 cl 144 81 ls (.inl y :: .inl x :: st) h = if x < y then am_go0 cl 144 84 ls st h else am_go0 cl 144 104 ls st h := (am_rJ0 am_m144 d_144_81 (by decide) rfl x y ls st h).trans (am_ifF ((am_cmp_ge x y).trans Int.not_lt.symm) _ _)
theorem d_144_84 : am_code 144 84 = some (.aload_n 0, 1) := by decide +kernel
theorem s_144_84 (cl : am_C) (a1 a2 a3 : Option am_V) (x : Nat) (st : List am_V) (h : am_H) : am_go0 cl 144 84 [some (.inr (.inr (some x))), a1, a2, a3] st h = am_go0 cl 144 85 [some (.inr (.inr (some x))), a1, a2, a3] (.inr (.inr (some x)) :: st) h := am_r am_m144 d_144_84 rfl
theorem d_144_85 : am_code 144 85 = some (.getfield 62, 3) := by decide +kernel
theorem s_144_85 (cl : am_C) (ls : am_Ls) (st : List am_V) (N : Nat) (I : Nat → Int → Int) (L : Nat → Int → Int64) : am_go0 cl 144 85 ls (.inr (.inr (some 53)) :: st) (am_GS N, am_GR, I, L) = am_go0 cl 144 88 ls (.inr (.inr (some 70)) :: st) (am_GS N, am_GR, I, L) := am_rG2 am_m144 d_144_85 am_f9062 rfl (gs_53 N) (by decide) gr_53_20 rfl
theorem d_144_88 : am_code 144 88 = some (.iconst 4, 1) := by decide +kernel
theorem s_144_88 (cl : am_C) (ls : am_Ls) (st : List am_V) (h : am_H) : am_go0 cl 144 88 ls st h = am_go0 cl 144 89 ls (.inl 4 :: st) h := am_rK am_m144 d_144_88 (by decide) rfl _ _ _
theorem d_144_89 : am_code 144 89 = some (.aload_n 0, 1) := by decide +kernel
theorem s_144_89 (cl : am_C) (a1 a2 a3 : Option am_V) (x : Nat) (st : List am_V) (h : am_H) : am_go0 cl 144 89 [some (.inr (.inr (some x))), a1, a2, a3] st h = am_go0 cl 144 90 [some (.inr (.inr (some x))), a1, a2, a3] (.inr (.inr (some x)) :: st) h := am_r am_m144 d_144_89 rfl
theorem d_144_90 : am_code 144 90 = some (.getfield 169, 3) := by decide +kernel
theorem s_144_90 (cl : am_C) (ls : am_Ls) (st : List am_V) (N : Nat) (I : Nat → Int → Int) (L : Nat → Int → Int64) : am_go0 cl 144 90 ls (.inr (.inr (some 53)) :: st) (am_GS N, am_GR, I, L) = am_go0 cl 144 93 ls (.inl (I 53 14) :: st) (am_GS N, am_GR, I, L) := am_rG0 am_m144 d_144_90 am_f9169 rfl (gs_53 N) (by decide) rfl
theorem d_144_93 : am_code 144 93 = some (.imul, 1) := by decide +kernel
theorem s_144_93 (cl : am_C) (ls : am_Ls) (x y : Int) (st : List am_V) (h : am_H) : am_go0 cl 144 93 ls (.inl y :: .inl x :: st) h = am_go0 cl 144 94 ls (.inl (am_wr (x * y)) :: st) h := am_r am_m144 d_144_93 rfl
theorem d_144_94 : am_code 144 94 = some (.iload_n 3, 1) := by decide +kernel
theorem s_144_94 (cl : am_C) (a0 a1 a2 : Option am_V) (x : Int) (st : List am_V) (h : am_H) : am_go0 cl 144 94 [a0, a1, a2, some (.inl x)] st h = am_go0 cl 144 95 [a0, a1, a2, some (.inl x)] (.inl x :: st) h := am_r am_m144 d_144_94 rfl
theorem d_144_95 : am_code 144 95 = some (.iadd, 1) := by decide +kernel
theorem s_144_95 (cl : am_C) (ls : am_Ls) (x y : Int) (st : List am_V) (h : am_H) : am_go0 cl 144 95 ls (.inl y :: .inl x :: st) h = am_go0 cl 144 96 ls (.inl (am_wr (x + y)) :: st) h := am_r am_m144 d_144_95 rfl
theorem d_144_96 : am_code 144 96 = some (.iconst (-1), 1) := by decide +kernel
theorem s_144_96 (cl : am_C) (ls : am_Ls) (st : List am_V) (h : am_H) : am_go0 cl 144 96 ls st h = am_go0 cl 144 97 ls (.inl (-1) :: st) h := am_rK am_m144 d_144_96 (by decide) rfl _ _ _
theorem d_144_97 : am_code 144 97 = some (.iastore, 1) := by decide +kernel
theorem s_144_97 (cl : am_C) (ls : am_Ls) (i : Int) (v : Int) (k : Nat) (st : List am_V) (N : Nat) (I : Nat → Int → Int) (L : Nat → Int → Int64) : am_go0 cl 144 97 ls (.inl v :: .inl i :: .inr (.inr (some k)) :: st) (am_GS N, am_GR, I, L) = if am_inb (am_GS N) k 0 i = true then am_go0 cl 144 98 ls st (am_GS N, am_GR, am_uI I k i v, L) else none := am_rS am_m144 d_144_97 rfl k ls st i v _ _ I L
theorem d_144_98 : am_code 144 98 = some (.iinc 3 1, 3) := by decide +kernel
theorem s_144_98 (cl : am_C) (a0 a1 a2 : Option am_V) (x : Int) (st : List am_V) (h : am_H) : am_go0 cl 144 98 [a0, a1, a2, some (.inl x)] st h = am_go0 cl 144 101 [a0, a1, am_c1 a2, some (.inl (am_wr (x + 1)))] st h := am_r am_m144 d_144_98 rfl
theorem d_144_101 : am_code 144 101 = some (.goto (-22), 3) := by decide +kernel
theorem s_144_101 (cl : am_C) (ls : am_Ls) (st : List am_V) (h : am_H) : am_go0 cl 144 101 ls st h = am_go0 cl 144 79 ls st h := am_rGo am_m144 d_144_101 (by decide) _ _ _
theorem d_144_104 : am_code 144 104 = some (.aload_n 0, 1) := by decide +kernel
theorem s_144_104 (cl : am_C) (a1 a2 a3 : Option am_V) (x : Nat) (st : List am_V) (h : am_H) : am_go0 cl 144 104 [some (.inr (.inr (some x))), a1, a2, a3] st h = am_go0 cl 144 105 [some (.inr (.inr (some x))), a1, a2, a3] (.inr (.inr (some x)) :: st) h := am_r am_m144 d_144_104 rfl
theorem d_144_105 : am_code 144 105 = some (.dup, 1) := by decide +kernel
theorem s_144_105 (cl : am_C) (ls : am_Ls) (x : Nat) (st : List am_V) (h : am_H) : am_go0 cl 144 105 ls (.inr (.inr (some x)) :: st) h = am_go0 cl 144 106 ls (.inr (.inr (some x)) :: .inr (.inr (some x)) :: st) h := am_r am_m144 d_144_105 rfl
theorem d_144_106 : am_code 144 106 = some (.getfield 169, 3) := by decide +kernel
theorem s_144_106 (cl : am_C) (ls : am_Ls) (st : List am_V) (N : Nat) (I : Nat → Int → Int) (L : Nat → Int → Int64) : am_go0 cl 144 106 ls (.inr (.inr (some 53)) :: st) (am_GS N, am_GR, I, L) = am_go0 cl 144 109 ls (.inl (I 53 14) :: st) (am_GS N, am_GR, I, L) := am_rG0 am_m144 d_144_106 am_f9169 rfl (gs_53 N) (by decide) rfl
theorem d_144_109 : am_code 144 109 = some (.iconst 1, 1) := by decide +kernel
theorem s_144_109 (cl : am_C) (ls : am_Ls) (st : List am_V) (h : am_H) : am_go0 cl 144 109 ls st h = am_go0 cl 144 110 ls (.inl 1 :: st) h := am_rK am_m144 d_144_109 (by decide) rfl _ _ _
theorem d_144_110 : am_code 144 110 = some (.iadd, 1) := by decide +kernel
theorem s_144_110 (cl : am_C) (ls : am_Ls) (x y : Int) (st : List am_V) (h : am_H) : am_go0 cl 144 110 ls (.inl y :: .inl x :: st) h = am_go0 cl 144 111 ls (.inl (am_wr (x + y)) :: st) h := am_r am_m144 d_144_110 rfl
theorem d_144_111 : am_code 144 111 = some (.putfield 169, 3) := by decide +kernel
theorem s_144_111 (cl : am_C) (ls : am_Ls) (v : Int) (st : List am_V) (N : Nat) (I : Nat → Int → Int) (L : Nat → Int → Int64) : am_go0 cl 144 111 ls (.inl v :: .inr (.inr (some 53)) :: st) (am_GS N, am_GR, I, L) = am_go0 cl 144 114 ls st (am_GS N, am_GR, am_uI I 53 14 v, L) := am_rP0 am_m144 d_144_111 am_f9169 rfl (gs_53 N) (by decide) rfl
theorem d_144_114 : am_code 144 114 = some (.aload_n 0, 1) := by decide +kernel
theorem s_144_114 (cl : am_C) (a1 a2 a3 : Option am_V) (x : Nat) (st : List am_V) (h : am_H) : am_go0 cl 144 114 [some (.inr (.inr (some x))), a1, a2, a3] st h = am_go0 cl 144 115 [some (.inr (.inr (some x))), a1, a2, a3] (.inr (.inr (some x)) :: st) h := am_r am_m144 d_144_114 rfl
theorem d_144_115 : am_code 144 115 = some (.aload_n 0, 1) := by decide +kernel
theorem s_144_115 (cl : am_C) (a1 a2 a3 : Option am_V) (x : Nat) (st : List am_V) (h : am_H) : am_go0 cl 144 115 [some (.inr (.inr (some x))), a1, a2, a3] st h = am_go0 cl 144 116 [some (.inr (.inr (some x))), a1, a2, a3] (.inr (.inr (some x)) :: st) h := am_r am_m144 d_144_115 rfl
theorem d_144_116 : am_code 144 116 = some (.getfield 169, 3) := by decide +kernel
theorem s_144_116 (cl : am_C) (ls : am_Ls) (st : List am_V) (N : Nat) (I : Nat → Int → Int) (L : Nat → Int → Int64) : am_go0 cl 144 116 ls (.inr (.inr (some 53)) :: st) (am_GS N, am_GR, I, L) = am_go0 cl 144 119 ls (.inl (I 53 14) :: st) (am_GS N, am_GR, I, L) := am_rG0 am_m144 d_144_116 am_f9169 rfl (gs_53 N) (by decide) rfl
theorem d_144_119 : am_code 144 119 = some (.iconst 1, 1) := by decide +kernel
theorem s_144_119 (cl : am_C) (ls : am_Ls) (st : List am_V) (h : am_H) : am_go0 cl 144 119 ls st h = am_go0 cl 144 120 ls (.inl 1 :: st) h := am_rK am_m144 d_144_119 (by decide) rfl _ _ _
theorem d_144_120 : am_code 144 120 = some (.isub, 1) := by decide +kernel
theorem s_144_120 (cl : am_C) (ls : am_Ls) (x y : Int) (st : List am_V) (h : am_H) : am_go0 cl 144 120 ls (.inl y :: .inl x :: st) h = am_go0 cl 144 121 ls (.inl (am_wr (x - y)) :: st) h := am_r am_m144 d_144_120 rfl
theorem d_144_121 : am_code 144 121 = some (.invokevirtual 175, 3) := by decide +kernel
theorem s_144_121 (cl : am_C) (ls : am_Ls) (x0 : Int) (N : Nat) (I : Nat → Int → Int) (L : Nat → Int → Int64) : am_go0 cl 144 121 ls [.inl x0, .inr (.inr (some 53))] (am_GS N, am_GR, I, L) = am_bd (cl 141 [.inr (.inr (some 53)), .inl x0] (am_GS N, am_GR, I, L)) (fun v h2 => am_go0 cl 144 124 ls (v.toList ++ []) h2) := am_rV am_m144 d_144_121 am_k9175 rfl am_m141 (gs_53 N) (by decide) (Nat.le_of_ble_eq_true rfl) rfl ls
theorem d_144_124 : am_code 144 124 = some (.ireturn, 1) := by decide +kernel
theorem s_144_124 (cl : am_C) (ls : am_Ls) (x : Int) (h : am_H) : am_go0 cl 144 124 ls [.inl x] h = some (some (.inl x), h) := am_rE am_m144 d_144_124 rfl
theorem e_144 (d : Nat) (t : Nat) (p0 : Int) (p1 : Int) (h : am_H) : am_call (d + 1) 144 [.inr (.inr (some t)), .inl p0, .inl p1] h = am_go0 (am_call d) 144 0 [some (.inr (.inr (some t))), some (.inl p0), some (.inl p1), none] [] h := am_callE am_m144 (Nat.le_of_ble_eq_true rfl) rfl
theorem d_145_0 : am_code 145 0 = some (.iconst 0, 1) := by decide +kernel
theorem s_145_0 (cl : am_C) (ls : am_Ls) (st : List am_V) (h : am_H) : am_go0 cl 145 0 ls st h = am_go0 cl 145 1 ls (.inl 0 :: st) h := am_rK am_m145 d_145_0 (by decide) rfl _ _ _
theorem d_145_1 : am_code 145 1 = some (.istore_n 3, 1) := by decide +kernel
theorem s_145_1 (cl : am_C) (a0 a1 a2 a3 : Option am_V) (x : Int) (st : List am_V) (h : am_H) : am_go0 cl 145 1 [a0, a1, a2, a3] (.inl x :: st) h = am_go0 cl 145 2 [a0, a1, am_c1 a2, some (.inl x)] st h := am_r am_m145 d_145_1 rfl
theorem d_145_2 : am_code 145 2 = some (.iload_n 3, 1) := by decide +kernel
theorem s_145_2 (cl : am_C) (a0 a1 a2 : Option am_V) (x : Int) (st : List am_V) (h : am_H) : am_go0 cl 145 2 [a0, a1, a2, some (.inl x)] st h = am_go0 cl 145 3 [a0, a1, a2, some (.inl x)] (.inl x :: st) h := am_r am_m145 d_145_2 rfl
theorem d_145_3 : am_code 145 3 = some (.aload_n 0, 1) := by decide +kernel
theorem s_145_3 (cl : am_C) (a1 a2 a3 : Option am_V) (x : Nat) (st : List am_V) (h : am_H) : am_go0 cl 145 3 [some (.inr (.inr (some x))), a1, a2, a3] st h = am_go0 cl 145 4 [some (.inr (.inr (some x))), a1, a2, a3] (.inr (.inr (some x)) :: st) h := am_r am_m145 d_145_3 rfl
theorem d_145_4 : am_code 145 4 = some (.getfield 169, 3) := by decide +kernel
theorem s_145_4 (cl : am_C) (ls : am_Ls) (st : List am_V) (N : Nat) (I : Nat → Int → Int) (L : Nat → Int → Int64) : am_go0 cl 145 4 ls (.inr (.inr (some 53)) :: st) (am_GS N, am_GR, I, L) = am_go0 cl 145 7 ls (.inl (I 53 14) :: st) (am_GS N, am_GR, I, L) := am_rG0 am_m145 d_145_4 am_f9169 rfl (gs_53 N) (by decide) rfl
theorem d_145_7 : am_code 145 7 = some (.if_icmp .ge 31, 3) := by decide +kernel
theorem s_145_7 (cl : am_C) (ls : am_Ls) (x y : Int) (st : List am_V) (h : am_H) : am_go0 cl 145 7 ls (.inl y :: .inl x :: st) h = if x < y then am_go0 cl 145 10 ls st h else am_go0 cl 145 38 ls st h := (am_rJ0 am_m145 d_145_7 (by decide) rfl x y ls st h).trans (am_ifF ((am_cmp_ge x y).trans Int.not_lt.symm) _ _)
theorem d_145_10 : am_code 145 10 = some (.aload_n 0, 1) := by decide +kernel
theorem s_145_10 (cl : am_C) (a1 a2 a3 : Option am_V) (x : Nat) (st : List am_V) (h : am_H) : am_go0 cl 145 10 [some (.inr (.inr (some x))), a1, a2, a3] st h = am_go0 cl 145 11 [some (.inr (.inr (some x))), a1, a2, a3] (.inr (.inr (some x)) :: st) h := am_r am_m145 d_145_10 rfl
theorem d_145_11 : am_code 145 11 = some (.getfield 47, 3) := by decide +kernel
theorem s_145_11 (cl : am_C) (ls : am_Ls) (st : List am_V) (N : Nat) (I : Nat → Int → Int) (L : Nat → Int → Int64) : am_go0 cl 145 11 ls (.inr (.inr (some 53)) :: st) (am_GS N, am_GR, I, L) = am_go0 cl 145 14 ls (.inr (.inr (some 65)) :: st) (am_GS N, am_GR, I, L) := am_rG2 am_m145 d_145_11 am_f9047 rfl (gs_53 N) (by decide) gr_53_15 rfl
theorem d_145_14 : am_code 145 14 = some (.iload_n 3, 1) := by decide +kernel
theorem s_145_14 (cl : am_C) (a0 a1 a2 : Option am_V) (x : Int) (st : List am_V) (h : am_H) : am_go0 cl 145 14 [a0, a1, a2, some (.inl x)] st h = am_go0 cl 145 15 [a0, a1, a2, some (.inl x)] (.inl x :: st) h := am_r am_m145 d_145_14 rfl
theorem d_145_15 : am_code 145 15 = some (.iaload, 1) := by decide +kernel
theorem s_145_15 (cl : am_C) (ls : am_Ls) (i : Int) (k : Nat) (st : List am_V) (N : Nat) (I : Nat → Int → Int) (L : Nat → Int → Int64) : am_go0 cl 145 15 ls (.inl i :: .inr (.inr (some k)) :: st) (am_GS N, am_GR, I, L) = if am_inb (am_GS N) k 0 i = true then am_go0 cl 145 16 ls (.inl (I k i) :: st) (am_GS N, am_GR, I, L) else none := am_rA am_m145 d_145_15 (by decide) rfl k ls st i _ _ I L
theorem d_145_16 : am_code 145 16 = some (.iload_n 1, 1) := by decide +kernel
theorem s_145_16 (cl : am_C) (a0 a2 a3 : Option am_V) (x : Int) (st : List am_V) (h : am_H) : am_go0 cl 145 16 [a0, some (.inl x), a2, a3] st h = am_go0 cl 145 17 [a0, some (.inl x), a2, a3] (.inl x :: st) h := am_r am_m145 d_145_16 rfl
theorem d_145_17 : am_code 145 17 = some (.if_icmp .ne 15, 3) := by decide +kernel
theorem s_145_17 (cl : am_C) (ls : am_Ls) (x y : Int) (st : List am_V) (h : am_H) : am_go0 cl 145 17 ls (.inl y :: .inl x :: st) h = if x = y then am_go0 cl 145 20 ls st h else am_go0 cl 145 32 ls st h := (am_rJ0 am_m145 d_145_17 (by decide) rfl x y ls st h).trans (am_ifF ((am_cmp_ne x y).trans Iff.rfl) _ _)
theorem d_145_20 : am_code 145 20 = some (.aload_n 0, 1) := by decide +kernel
theorem s_145_20 (cl : am_C) (a1 a2 a3 : Option am_V) (x : Nat) (st : List am_V) (h : am_H) : am_go0 cl 145 20 [some (.inr (.inr (some x))), a1, a2, a3] st h = am_go0 cl 145 21 [some (.inr (.inr (some x))), a1, a2, a3] (.inr (.inr (some x)) :: st) h := am_r am_m145 d_145_20 rfl
theorem d_145_21 : am_code 145 21 = some (.getfield 50, 3) := by decide +kernel
theorem s_145_21 (cl : am_C) (ls : am_Ls) (st : List am_V) (N : Nat) (I : Nat → Int → Int) (L : Nat → Int → Int64) : am_go0 cl 145 21 ls (.inr (.inr (some 53)) :: st) (am_GS N, am_GR, I, L) = am_go0 cl 145 24 ls (.inr (.inr (some 66)) :: st) (am_GS N, am_GR, I, L) := am_rG2 am_m145 d_145_21 am_f9050 rfl (gs_53 N) (by decide) gr_53_16 rfl
theorem d_145_24 : am_code 145 24 = some (.iload_n 3, 1) := by decide +kernel
theorem s_145_24 (cl : am_C) (a0 a1 a2 : Option am_V) (x : Int) (st : List am_V) (h : am_H) : am_go0 cl 145 24 [a0, a1, a2, some (.inl x)] st h = am_go0 cl 145 25 [a0, a1, a2, some (.inl x)] (.inl x :: st) h := am_r am_m145 d_145_24 rfl
theorem d_145_25 : am_code 145 25 = some (.iaload, 1) := by decide +kernel
theorem s_145_25 (cl : am_C) (ls : am_Ls) (i : Int) (k : Nat) (st : List am_V) (N : Nat) (I : Nat → Int → Int) (L : Nat → Int → Int64) : am_go0 cl 145 25 ls (.inl i :: .inr (.inr (some k)) :: st) (am_GS N, am_GR, I, L) = if am_inb (am_GS N) k 0 i = true then am_go0 cl 145 26 ls (.inl (I k i) :: st) (am_GS N, am_GR, I, L) else none := am_rA am_m145 d_145_25 (by decide) rfl k ls st i _ _ I L
theorem d_145_26 : am_code 145 26 = some (.iload_n 2, 1) := by decide +kernel
theorem s_145_26 (cl : am_C) (a0 a1 a3 : Option am_V) (x : Int) (st : List am_V) (h : am_H) : am_go0 cl 145 26 [a0, a1, some (.inl x), a3] st h = am_go0 cl 145 27 [a0, a1, some (.inl x), a3] (.inl x :: st) h := am_r am_m145 d_145_26 rfl
theorem d_145_27 : am_code 145 27 = some (.if_icmp .ne 5, 3) := by decide +kernel
theorem s_145_27 (cl : am_C) (ls : am_Ls) (x y : Int) (st : List am_V) (h : am_H) : am_go0 cl 145 27 ls (.inl y :: .inl x :: st) h = if x = y then am_go0 cl 145 30 ls st h else am_go0 cl 145 32 ls st h := (am_rJ0 am_m145 d_145_27 (by decide) rfl x y ls st h).trans (am_ifF ((am_cmp_ne x y).trans Iff.rfl) _ _)
theorem d_145_30 : am_code 145 30 = some (.iload_n 3, 1) := by decide +kernel
theorem s_145_30 (cl : am_C) (a0 a1 a2 : Option am_V) (x : Int) (st : List am_V) (h : am_H) : am_go0 cl 145 30 [a0, a1, a2, some (.inl x)] st h = am_go0 cl 145 31 [a0, a1, a2, some (.inl x)] (.inl x :: st) h := am_r am_m145 d_145_30 rfl
theorem d_145_31 : am_code 145 31 = some (.ireturn, 1) := by decide +kernel
theorem s_145_31 (cl : am_C) (ls : am_Ls) (x : Int) (h : am_H) : am_go0 cl 145 31 ls [.inl x] h = some (some (.inl x), h) := am_rE am_m145 d_145_31 rfl
theorem d_145_32 : am_code 145 32 = some (.iinc 3 1, 3) := by decide +kernel
theorem s_145_32 (cl : am_C) (a0 a1 a2 : Option am_V) (x : Int) (st : List am_V) (h : am_H) : am_go0 cl 145 32 [a0, a1, a2, some (.inl x)] st h = am_go0 cl 145 35 [a0, a1, am_c1 a2, some (.inl (am_wr (x + 1)))] st h := am_r am_m145 d_145_32 rfl
theorem d_145_35 : am_code 145 35 = some (.goto (-33), 3) := by decide +kernel
theorem s_145_35 (cl : am_C) (ls : am_Ls) (st : List am_V) (h : am_H) : am_go0 cl 145 35 ls st h = am_go0 cl 145 2 ls st h := am_rGo am_m145 d_145_35 (by decide) _ _ _
theorem d_145_38 : am_code 145 38 = some (.iconst (-1), 1) := by decide +kernel
theorem s_145_38 (cl : am_C) (ls : am_Ls) (st : List am_V) (h : am_H) : am_go0 cl 145 38 ls st h = am_go0 cl 145 39 ls (.inl (-1) :: st) h := am_rK am_m145 d_145_38 (by decide) rfl _ _ _
theorem d_145_39 : am_code 145 39 = some (.ireturn, 1) := by decide +kernel
theorem s_145_39 (cl : am_C) (ls : am_Ls) (x : Int) (h : am_H) : am_go0 cl 145 39 ls [.inl x] h = some (some (.inl x), h) := am_rE am_m145 d_145_39 rfl
theorem e_145 (d : Nat) (t : Nat) (p0 : Int) (p1 : Int) (h : am_H) : am_call (d + 1) 145 [.inr (.inr (some t)), .inl p0, .inl p1] h = am_go0 (am_call d) 145 0 [some (.inr (.inr (some t))), some (.inl p0), some (.inl p1), none] [] h := am_callE am_m145 (Nat.le_of_ble_eq_true rfl) rfl
theorem d_146_0 : am_code 146 0 = some (.aload_n 0, 1) := by decide +kernel
theorem s_146_0 (cl : am_C) (a1 a2 a3 : Option am_V) (x : Nat) (st : List am_V) (h : am_H) : am_go0 cl 146 0 [some (.inr (.inr (some x))), a1, a2, a3] st h = am_go0 cl 146 1 [some (.inr (.inr (some x))), a1, a2, a3] (.inr (.inr (some x)) :: st) h := am_r am_m146 d_146_0 rfl
theorem d_146_1 : am_code 146 1 = some (.iload_n 1, 1) := by decide +kernel
theorem s_146_1 (cl : am_C) (a0 a2 a3 : Option am_V) (x : Int) (st : List am_V) (h : am_H) : am_go0 cl 146 1 [a0, some (.inl x), a2, a3] st h = am_go0 cl 146 2 [a0, some (.inl x), a2, a3] (.inl x :: st) h := am_r am_m146 d_146_1 rfl
theorem d_146_2 : am_code 146 2 = some (.invokevirtual 186, 3) := by decide +kernel
theorem s_146_2 (cl : am_C) (ls : am_Ls) (x0 : Int) (N : Nat) (I : Nat → Int → Int) (L : Nat → Int → Int64) : am_go0 cl 146 2 ls [.inl x0, .inr (.inr (some 53))] (am_GS N, am_GR, I, L) = am_bd (cl 147 [.inr (.inr (some 53)), .inl x0] (am_GS N, am_GR, I, L)) (fun v h2 => am_go0 cl 146 5 ls (v.toList ++ []) h2) := am_rV am_m146 d_146_2 am_k9186 rfl am_m147 (gs_53 N) (by decide) (Nat.le_of_ble_eq_true rfl) rfl ls
theorem d_146_5 : am_code 146 5 = some (.ifCond .eq 32, 3) := by decide +kernel
theorem s_146_5 (cl : am_C) (ls : am_Ls) (x : Int) (st : List am_V) (h : am_H) : am_go0 cl 146 5 ls (.inl x :: st) h = if x = 0 then am_go0 cl 146 37 ls st h else am_go0 cl 146 8 ls st h := (am_rJ1 am_m146 d_146_5 (by decide) rfl x ls st h).trans (am_ifT (am_cmp_eq x 0) _ _)
theorem d_146_8 : am_code 146 8 = some (.aload_n 0, 1) := by decide +kernel
theorem s_146_8 (cl : am_C) (a1 a2 a3 : Option am_V) (x : Nat) (st : List am_V) (h : am_H) : am_go0 cl 146 8 [some (.inr (.inr (some x))), a1, a2, a3] st h = am_go0 cl 146 9 [some (.inr (.inr (some x))), a1, a2, a3] (.inr (.inr (some x)) :: st) h := am_r am_m146 d_146_8 rfl
theorem d_146_9 : am_code 146 9 = some (.iload_n 2, 1) := by decide +kernel
theorem s_146_9 (cl : am_C) (a0 a1 a3 : Option am_V) (x : Int) (st : List am_V) (h : am_H) : am_go0 cl 146 9 [a0, a1, some (.inl x), a3] st h = am_go0 cl 146 10 [a0, a1, some (.inl x), a3] (.inl x :: st) h := am_r am_m146 d_146_9 rfl
theorem d_146_10 : am_code 146 10 = some (.invokevirtual 179, 3) := by decide +kernel
theorem s_146_10 (cl : am_C) (ls : am_Ls) (x0 : Int) (N : Nat) (I : Nat → Int → Int) (L : Nat → Int → Int64) : am_go0 cl 146 10 ls [.inl x0, .inr (.inr (some 53))] (am_GS N, am_GR, I, L) = am_bd (cl 143 [.inr (.inr (some 53)), .inl x0] (am_GS N, am_GR, I, L)) (fun v h2 => am_go0 cl 146 13 ls (v.toList ++ []) h2) := am_rV am_m146 d_146_10 am_k9179 rfl am_m143 (gs_53 N) (by decide) (Nat.le_of_ble_eq_true rfl) rfl ls
theorem d_146_13 : am_code 146 13 = some (.ifCond .eq 24, 3) := by decide +kernel
theorem s_146_13 (cl : am_C) (ls : am_Ls) (x : Int) (st : List am_V) (h : am_H) : am_go0 cl 146 13 ls (.inl x :: st) h = if x = 0 then am_go0 cl 146 37 ls st h else am_go0 cl 146 16 ls st h := (am_rJ1 am_m146 d_146_13 (by decide) rfl x ls st h).trans (am_ifT (am_cmp_eq x 0) _ _)
theorem d_146_16 : am_code 146 16 = some (.iload_n 3, 1) := by decide +kernel
theorem s_146_16 (cl : am_C) (a0 a1 a2 : Option am_V) (x : Int) (st : List am_V) (h : am_H) : am_go0 cl 146 16 [a0, a1, a2, some (.inl x)] st h = am_go0 cl 146 17 [a0, a1, a2, some (.inl x)] (.inl x :: st) h := am_r am_m146 d_146_16 rfl
theorem d_146_17 : am_code 146 17 = some (.iconst 0, 1) := by decide +kernel
theorem s_146_17 (cl : am_C) (ls : am_Ls) (st : List am_V) (h : am_H) : am_go0 cl 146 17 ls st h = am_go0 cl 146 18 ls (.inl 0 :: st) h := am_rK am_m146 d_146_17 (by decide) rfl _ _ _
theorem d_146_18 : am_code 146 18 = some (.aload_n 0, 1) := by decide +kernel
theorem s_146_18 (cl : am_C) (a1 a2 a3 : Option am_V) (x : Nat) (st : List am_V) (h : am_H) : am_go0 cl 146 18 [some (.inr (.inr (some x))), a1, a2, a3] st h = am_go0 cl 146 19 [some (.inr (.inr (some x))), a1, a2, a3] (.inr (.inr (some x)) :: st) h := am_r am_m146 d_146_18 rfl
theorem d_146_19 : am_code 146 19 = some (.getfield 7, 3) := by decide +kernel
theorem s_146_19 (cl : am_C) (ls : am_Ls) (st : List am_V) (N : Nat) (I : Nat → Int → Int) (L : Nat → Int → Int64) : am_go0 cl 146 19 ls (.inr (.inr (some 53)) :: st) (am_GS N, am_GR, I, L) = am_go0 cl 146 22 ls (.inr (.inr (some 54)) :: st) (am_GS N, am_GR, I, L) := am_rG2 am_m146 d_146_19 am_f9007 rfl (gs_53 N) (by decide) gr_53_1 rfl
theorem d_146_22 : am_code 146 22 = some (.aload_n 0, 1) := by decide +kernel
theorem s_146_22 (cl : am_C) (a1 a2 a3 : Option am_V) (x : Nat) (st : List am_V) (h : am_H) : am_go0 cl 146 22 [some (.inr (.inr (some x))), a1, a2, a3] st h = am_go0 cl 146 23 [some (.inr (.inr (some x))), a1, a2, a3] (.inr (.inr (some x)) :: st) h := am_r am_m146 d_146_22 rfl
theorem d_146_23 : am_code 146 23 = some (.getfield 50, 3) := by decide +kernel
theorem s_146_23 (cl : am_C) (ls : am_Ls) (st : List am_V) (N : Nat) (I : Nat → Int → Int) (L : Nat → Int → Int64) : am_go0 cl 146 23 ls (.inr (.inr (some 53)) :: st) (am_GS N, am_GR, I, L) = am_go0 cl 146 26 ls (.inr (.inr (some 66)) :: st) (am_GS N, am_GR, I, L) := am_rG2 am_m146 d_146_23 am_f9050 rfl (gs_53 N) (by decide) gr_53_16 rfl
theorem d_146_26 : am_code 146 26 = some (.iload_n 1, 1) := by decide +kernel
theorem s_146_26 (cl : am_C) (a0 a2 a3 : Option am_V) (x : Int) (st : List am_V) (h : am_H) : am_go0 cl 146 26 [a0, some (.inl x), a2, a3] st h = am_go0 cl 146 27 [a0, some (.inl x), a2, a3] (.inl x :: st) h := am_r am_m146 d_146_26 rfl
theorem d_146_27 : am_code 146 27 = some (.iaload, 1) := by decide +kernel
theorem s_146_27 (cl : am_C) (ls : am_Ls) (i : Int) (k : Nat) (st : List am_V) (N : Nat) (I : Nat → Int → Int) (L : Nat → Int → Int64) : am_go0 cl 146 27 ls (.inl i :: .inr (.inr (some k)) :: st) (am_GS N, am_GR, I, L) = if am_inb (am_GS N) k 0 i = true then am_go0 cl 146 28 ls (.inl (I k i) :: st) (am_GS N, am_GR, I, L) else none := am_rA am_m146 d_146_27 (by decide) rfl k ls st i _ _ I L
theorem d_146_28 : am_code 146 28 = some (.iaload, 1) := by decide +kernel
theorem s_146_28 (cl : am_C) (ls : am_Ls) (i : Int) (k : Nat) (st : List am_V) (N : Nat) (I : Nat → Int → Int) (L : Nat → Int → Int64) : am_go0 cl 146 28 ls (.inl i :: .inr (.inr (some k)) :: st) (am_GS N, am_GR, I, L) = if am_inb (am_GS N) k 0 i = true then am_go0 cl 146 29 ls (.inl (I k i) :: st) (am_GS N, am_GR, I, L) else none := am_rA am_m146 d_146_28 (by decide) rfl k ls st i _ _ I L
theorem d_146_29 : am_code 146 29 = some (.iconst 1, 1) := by decide +kernel
theorem s_146_29 (cl : am_C) (ls : am_Ls) (st : List am_V) (h : am_H) : am_go0 cl 146 29 ls st h = am_go0 cl 146 30 ls (.inl 1 :: st) h := am_rK am_m146 d_146_29 (by decide) rfl _ _ _
theorem d_146_30 : am_code 146 30 = some (.isub, 1) := by decide +kernel
theorem s_146_30 (cl : am_C) (ls : am_Ls) (x y : Int) (st : List am_V) (h : am_H) : am_go0 cl 146 30 ls (.inl y :: .inl x :: st) h = am_go0 cl 146 31 ls (.inl (am_wr (x - y)) :: st) h := am_r am_m146 d_146_30 rfl
theorem d_146_31 : am_code 146 31 = some (.invokestatic 151, 3) := by decide +kernel
theorem s_146_31 (cl : am_C) (ls : am_Ls) (x0 : Int) (x1 : Int) (x2 : Int) (h : am_H) : am_go0 cl 146 31 ls [.inl x2, .inl x1, .inl x0] h = am_bd (cl 135 [.inl x0, .inl x1, .inl x2] h) (fun v h2 => am_go0 cl 146 34 ls (v.toList ++ []) h2) := am_rVs am_m146 d_146_31 am_k9151 rfl (Nat.le_of_ble_eq_true rfl) rfl ls
theorem d_146_34 : am_code 146 34 = some (.ifCond .ne 6, 3) := by decide +kernel
theorem s_146_34 (cl : am_C) (ls : am_Ls) (x : Int) (st : List am_V) (h : am_H) : am_go0 cl 146 34 ls (.inl x :: st) h = if x = 0 then am_go0 cl 146 37 ls st h else am_go0 cl 146 40 ls st h := (am_rJ1 am_m146 d_146_34 (by decide) rfl x ls st h).trans (am_ifF ((am_cmp_ne x 0).trans Iff.rfl) _ _)
theorem d_146_37 : am_code 146 37 = some (.bipush (-2), 2) := by decide +kernel
theorem s_146_37 (cl : am_C) (ls : am_Ls) (st : List am_V) (h : am_H) : am_go0 cl 146 37 ls st h = am_go0 cl 146 39 ls (.inl (-2) :: st) h := am_rB am_m146 d_146_37 (by decide) rfl _ _ _
theorem d_146_39 : am_code 146 39 = some (.ireturn, 1) := by decide +kernel
theorem s_146_39 (cl : am_C) (ls : am_Ls) (x : Int) (h : am_H) : am_go0 cl 146 39 ls [.inl x] h = some (some (.inl x), h) := am_rE am_m146 d_146_39 rfl
theorem d_146_40 : am_code 146 40 = some (.aload_n 0, 1) := by decide +kernel
theorem s_146_40 (cl : am_C) (a1 a2 a3 : Option am_V) (x : Nat) (st : List am_V) (h : am_H) : am_go0 cl 146 40 [some (.inr (.inr (some x))), a1, a2, a3] st h = am_go0 cl 146 41 [some (.inr (.inr (some x))), a1, a2, a3] (.inr (.inr (some x)) :: st) h := am_r am_m146 d_146_40 rfl
theorem d_146_41 : am_code 146 41 = some (.getfield 53, 3) := by decide +kernel
theorem s_146_41 (cl : am_C) (ls : am_Ls) (st : List am_V) (N : Nat) (I : Nat → Int → Int) (L : Nat → Int → Int64) : am_go0 cl 146 41 ls (.inr (.inr (some 53)) :: st) (am_GS N, am_GR, I, L) = am_go0 cl 146 44 ls (.inr (.inr (some 67)) :: st) (am_GS N, am_GR, I, L) := am_rG2 am_m146 d_146_41 am_f9053 rfl (gs_53 N) (by decide) gr_53_17 rfl
theorem d_146_44 : am_code 146 44 = some (.iload_n 1, 1) := by decide +kernel
theorem s_146_44 (cl : am_C) (a0 a2 a3 : Option am_V) (x : Int) (st : List am_V) (h : am_H) : am_go0 cl 146 44 [a0, some (.inl x), a2, a3] st h = am_go0 cl 146 45 [a0, some (.inl x), a2, a3] (.inl x :: st) h := am_r am_m146 d_146_44 rfl
theorem d_146_45 : am_code 146 45 = some (.iaload, 1) := by decide +kernel
theorem s_146_45 (cl : am_C) (ls : am_Ls) (i : Int) (k : Nat) (st : List am_V) (N : Nat) (I : Nat → Int → Int) (L : Nat → Int → Int64) : am_go0 cl 146 45 ls (.inl i :: .inr (.inr (some k)) :: st) (am_GS N, am_GR, I, L) = if am_inb (am_GS N) k 0 i = true then am_go0 cl 146 46 ls (.inl (I k i) :: st) (am_GS N, am_GR, I, L) else none := am_rA am_m146 d_146_45 (by decide) rfl k ls st i _ _ I L
theorem d_146_46 : am_code 146 46 = some (.iconst 3, 1) := by decide +kernel
theorem s_146_46 (cl : am_C) (ls : am_Ls) (st : List am_V) (h : am_H) : am_go0 cl 146 46 ls st h = am_go0 cl 146 47 ls (.inl 3 :: st) h := am_rK am_m146 d_146_46 (by decide) rfl _ _ _
theorem d_146_47 : am_code 146 47 = some (.if_icmp .ne 6, 3) := by decide +kernel
theorem s_146_47 (cl : am_C) (ls : am_Ls) (x y : Int) (st : List am_V) (h : am_H) : am_go0 cl 146 47 ls (.inl y :: .inl x :: st) h = if x = y then am_go0 cl 146 50 ls st h else am_go0 cl 146 53 ls st h := (am_rJ0 am_m146 d_146_47 (by decide) rfl x y ls st h).trans (am_ifF ((am_cmp_ne x y).trans Iff.rfl) _ _)
theorem d_146_50 : am_code 146 50 = some (.bipush (-3), 2) := by decide +kernel
theorem s_146_50 (cl : am_C) (ls : am_Ls) (st : List am_V) (h : am_H) : am_go0 cl 146 50 ls st h = am_go0 cl 146 52 ls (.inl (-3) :: st) h := am_rB am_m146 d_146_50 (by decide) rfl _ _ _
theorem d_146_52 : am_code 146 52 = some (.ireturn, 1) := by decide +kernel
theorem s_146_52 (cl : am_C) (ls : am_Ls) (x : Int) (h : am_H) : am_go0 cl 146 52 ls [.inl x] h = some (some (.inl x), h) := am_rE am_m146 d_146_52 rfl
theorem d_146_53 : am_code 146 53 = some (.aload_n 0, 1) := by decide +kernel
theorem s_146_53 (cl : am_C) (a1 a2 a3 : Option am_V) (x : Nat) (st : List am_V) (h : am_H) : am_go0 cl 146 53 [some (.inr (.inr (some x))), a1, a2, a3] st h = am_go0 cl 146 54 [some (.inr (.inr (some x))), a1, a2, a3] (.inr (.inr (some x)) :: st) h := am_r am_m146 d_146_53 rfl
theorem d_146_54 : am_code 146 54 = some (.getfield 56, 3) := by decide +kernel
theorem s_146_54 (cl : am_C) (ls : am_Ls) (st : List am_V) (N : Nat) (I : Nat → Int → Int) (L : Nat → Int → Int64) : am_go0 cl 146 54 ls (.inr (.inr (some 53)) :: st) (am_GS N, am_GR, I, L) = am_go0 cl 146 57 ls (.inr (.inr (some 68)) :: st) (am_GS N, am_GR, I, L) := am_rG2 am_m146 d_146_54 am_f9056 rfl (gs_53 N) (by decide) gr_53_18 rfl
theorem d_146_57 : am_code 146 57 = some (.iconst 3, 1) := by decide +kernel
theorem s_146_57 (cl : am_C) (ls : am_Ls) (st : List am_V) (h : am_H) : am_go0 cl 146 57 ls st h = am_go0 cl 146 58 ls (.inl 3 :: st) h := am_rK am_m146 d_146_57 (by decide) rfl _ _ _
theorem d_146_58 : am_code 146 58 = some (.iload_n 1, 1) := by decide +kernel
theorem s_146_58 (cl : am_C) (a0 a2 a3 : Option am_V) (x : Int) (st : List am_V) (h : am_H) : am_go0 cl 146 58 [a0, some (.inl x), a2, a3] st h = am_go0 cl 146 59 [a0, some (.inl x), a2, a3] (.inl x :: st) h := am_r am_m146 d_146_58 rfl
theorem d_146_59 : am_code 146 59 = some (.imul, 1) := by decide +kernel
theorem s_146_59 (cl : am_C) (ls : am_Ls) (x y : Int) (st : List am_V) (h : am_H) : am_go0 cl 146 59 ls (.inl y :: .inl x :: st) h = am_go0 cl 146 60 ls (.inl (am_wr (x * y)) :: st) h := am_r am_m146 d_146_59 rfl
theorem d_146_60 : am_code 146 60 = some (.aload_n 0, 1) := by decide +kernel
theorem s_146_60 (cl : am_C) (a1 a2 a3 : Option am_V) (x : Nat) (st : List am_V) (h : am_H) : am_go0 cl 146 60 [some (.inr (.inr (some x))), a1, a2, a3] st h = am_go0 cl 146 61 [some (.inr (.inr (some x))), a1, a2, a3] (.inr (.inr (some x)) :: st) h := am_r am_m146 d_146_60 rfl
theorem d_146_61 : am_code 146 61 = some (.getfield 53, 3) := by decide +kernel
theorem s_146_61 (cl : am_C) (ls : am_Ls) (st : List am_V) (N : Nat) (I : Nat → Int → Int) (L : Nat → Int → Int64) : am_go0 cl 146 61 ls (.inr (.inr (some 53)) :: st) (am_GS N, am_GR, I, L) = am_go0 cl 146 64 ls (.inr (.inr (some 67)) :: st) (am_GS N, am_GR, I, L) := am_rG2 am_m146 d_146_61 am_f9053 rfl (gs_53 N) (by decide) gr_53_17 rfl
theorem d_146_64 : am_code 146 64 = some (.iload_n 1, 1) := by decide +kernel
theorem s_146_64 (cl : am_C) (a0 a2 a3 : Option am_V) (x : Int) (st : List am_V) (h : am_H) : am_go0 cl 146 64 [a0, some (.inl x), a2, a3] st h = am_go0 cl 146 65 [a0, some (.inl x), a2, a3] (.inl x :: st) h := am_r am_m146 d_146_64 rfl
theorem d_146_65 : am_code 146 65 = some (.iaload, 1) := by decide +kernel
theorem s_146_65 (cl : am_C) (ls : am_Ls) (i : Int) (k : Nat) (st : List am_V) (N : Nat) (I : Nat → Int → Int) (L : Nat → Int → Int64) : am_go0 cl 146 65 ls (.inl i :: .inr (.inr (some k)) :: st) (am_GS N, am_GR, I, L) = if am_inb (am_GS N) k 0 i = true then am_go0 cl 146 66 ls (.inl (I k i) :: st) (am_GS N, am_GR, I, L) else none := am_rA am_m146 d_146_65 (by decide) rfl k ls st i _ _ I L
theorem d_146_66 : am_code 146 66 = some (.iadd, 1) := by decide +kernel
theorem s_146_66 (cl : am_C) (ls : am_Ls) (x y : Int) (st : List am_V) (h : am_H) : am_go0 cl 146 66 ls (.inl y :: .inl x :: st) h = am_go0 cl 146 67 ls (.inl (am_wr (x + y)) :: st) h := am_r am_m146 d_146_66 rfl
theorem d_146_67 : am_code 146 67 = some (.iload_n 2, 1) := by decide +kernel
theorem s_146_67 (cl : am_C) (a0 a1 a3 : Option am_V) (x : Int) (st : List am_V) (h : am_H) : am_go0 cl 146 67 [a0, a1, some (.inl x), a3] st h = am_go0 cl 146 68 [a0, a1, some (.inl x), a3] (.inl x :: st) h := am_r am_m146 d_146_67 rfl
theorem d_146_68 : am_code 146 68 = some (.iastore, 1) := by decide +kernel
theorem s_146_68 (cl : am_C) (ls : am_Ls) (i : Int) (v : Int) (k : Nat) (st : List am_V) (N : Nat) (I : Nat → Int → Int) (L : Nat → Int → Int64) : am_go0 cl 146 68 ls (.inl v :: .inl i :: .inr (.inr (some k)) :: st) (am_GS N, am_GR, I, L) = if am_inb (am_GS N) k 0 i = true then am_go0 cl 146 69 ls st (am_GS N, am_GR, am_uI I k i v, L) else none := am_rS am_m146 d_146_68 rfl k ls st i v _ _ I L
theorem d_146_69 : am_code 146 69 = some (.aload_n 0, 1) := by decide +kernel
theorem s_146_69 (cl : am_C) (a1 a2 a3 : Option am_V) (x : Nat) (st : List am_V) (h : am_H) : am_go0 cl 146 69 [some (.inr (.inr (some x))), a1, a2, a3] st h = am_go0 cl 146 70 [some (.inr (.inr (some x))), a1, a2, a3] (.inr (.inr (some x)) :: st) h := am_r am_m146 d_146_69 rfl
theorem d_146_70 : am_code 146 70 = some (.getfield 59, 3) := by decide +kernel
theorem s_146_70 (cl : am_C) (ls : am_Ls) (st : List am_V) (N : Nat) (I : Nat → Int → Int) (L : Nat → Int → Int64) : am_go0 cl 146 70 ls (.inr (.inr (some 53)) :: st) (am_GS N, am_GR, I, L) = am_go0 cl 146 73 ls (.inr (.inr (some 69)) :: st) (am_GS N, am_GR, I, L) := am_rG2 am_m146 d_146_70 am_f9059 rfl (gs_53 N) (by decide) gr_53_19 rfl
theorem d_146_73 : am_code 146 73 = some (.iconst 3, 1) := by decide +kernel
theorem s_146_73 (cl : am_C) (ls : am_Ls) (st : List am_V) (h : am_H) : am_go0 cl 146 73 ls st h = am_go0 cl 146 74 ls (.inl 3 :: st) h := am_rK am_m146 d_146_73 (by decide) rfl _ _ _
theorem d_146_74 : am_code 146 74 = some (.iload_n 1, 1) := by decide +kernel
theorem s_146_74 (cl : am_C) (a0 a2 a3 : Option am_V) (x : Int) (st : List am_V) (h : am_H) : am_go0 cl 146 74 [a0, some (.inl x), a2, a3] st h = am_go0 cl 146 75 [a0, some (.inl x), a2, a3] (.inl x :: st) h := am_r am_m146 d_146_74 rfl
theorem d_146_75 : am_code 146 75 = some (.imul, 1) := by decide +kernel
theorem s_146_75 (cl : am_C) (ls : am_Ls) (x y : Int) (st : List am_V) (h : am_H) : am_go0 cl 146 75 ls (.inl y :: .inl x :: st) h = am_go0 cl 146 76 ls (.inl (am_wr (x * y)) :: st) h := am_r am_m146 d_146_75 rfl
theorem d_146_76 : am_code 146 76 = some (.aload_n 0, 1) := by decide +kernel
theorem s_146_76 (cl : am_C) (a1 a2 a3 : Option am_V) (x : Nat) (st : List am_V) (h : am_H) : am_go0 cl 146 76 [some (.inr (.inr (some x))), a1, a2, a3] st h = am_go0 cl 146 77 [some (.inr (.inr (some x))), a1, a2, a3] (.inr (.inr (some x)) :: st) h := am_r am_m146 d_146_76 rfl
theorem d_146_77 : am_code 146 77 = some (.getfield 53, 3) := by decide +kernel
theorem s_146_77 (cl : am_C) (ls : am_Ls) (st : List am_V) (N : Nat) (I : Nat → Int → Int) (L : Nat → Int → Int64) : am_go0 cl 146 77 ls (.inr (.inr (some 53)) :: st) (am_GS N, am_GR, I, L) = am_go0 cl 146 80 ls (.inr (.inr (some 67)) :: st) (am_GS N, am_GR, I, L) := am_rG2 am_m146 d_146_77 am_f9053 rfl (gs_53 N) (by decide) gr_53_17 rfl
theorem d_146_80 : am_code 146 80 = some (.iload_n 1, 1) := by decide +kernel
theorem s_146_80 (cl : am_C) (a0 a2 a3 : Option am_V) (x : Int) (st : List am_V) (h : am_H) : am_go0 cl 146 80 [a0, some (.inl x), a2, a3] st h = am_go0 cl 146 81 [a0, some (.inl x), a2, a3] (.inl x :: st) h := am_r am_m146 d_146_80 rfl
theorem d_146_81 : am_code 146 81 = some (.iaload, 1) := by decide +kernel
theorem s_146_81 (cl : am_C) (ls : am_Ls) (i : Int) (k : Nat) (st : List am_V) (N : Nat) (I : Nat → Int → Int) (L : Nat → Int → Int64) : am_go0 cl 146 81 ls (.inl i :: .inr (.inr (some k)) :: st) (am_GS N, am_GR, I, L) = if am_inb (am_GS N) k 0 i = true then am_go0 cl 146 82 ls (.inl (I k i) :: st) (am_GS N, am_GR, I, L) else none := am_rA am_m146 d_146_81 (by decide) rfl k ls st i _ _ I L
theorem d_146_82 : am_code 146 82 = some (.iadd, 1) := by decide +kernel
theorem s_146_82 (cl : am_C) (ls : am_Ls) (x y : Int) (st : List am_V) (h : am_H) : am_go0 cl 146 82 ls (.inl y :: .inl x :: st) h = am_go0 cl 146 83 ls (.inl (am_wr (x + y)) :: st) h := am_r am_m146 d_146_82 rfl
theorem d_146_83 : am_code 146 83 = some (.iload_n 3, 1) := by decide +kernel
theorem s_146_83 (cl : am_C) (a0 a1 a2 : Option am_V) (x : Int) (st : List am_V) (h : am_H) : am_go0 cl 146 83 [a0, a1, a2, some (.inl x)] st h = am_go0 cl 146 84 [a0, a1, a2, some (.inl x)] (.inl x :: st) h := am_r am_m146 d_146_83 rfl
theorem d_146_84 : am_code 146 84 = some (.iastore, 1) := by decide +kernel
theorem s_146_84 (cl : am_C) (ls : am_Ls) (i : Int) (v : Int) (k : Nat) (st : List am_V) (N : Nat) (I : Nat → Int → Int) (L : Nat → Int → Int64) : am_go0 cl 146 84 ls (.inl v :: .inl i :: .inr (.inr (some k)) :: st) (am_GS N, am_GR, I, L) = if am_inb (am_GS N) k 0 i = true then am_go0 cl 146 85 ls st (am_GS N, am_GR, am_uI I k i v, L) else none := am_rS am_m146 d_146_84 rfl k ls st i v _ _ I L
theorem d_146_85 : am_code 146 85 = some (.aload_n 0, 1) := by decide +kernel
theorem s_146_85 (cl : am_C) (a1 a2 a3 : Option am_V) (x : Nat) (st : List am_V) (h : am_H) : am_go0 cl 146 85 [some (.inr (.inr (some x))), a1, a2, a3] st h = am_go0 cl 146 86 [some (.inr (.inr (some x))), a1, a2, a3] (.inr (.inr (some x)) :: st) h := am_r am_m146 d_146_85 rfl
theorem d_146_86 : am_code 146 86 = some (.getfield 53, 3) := by decide +kernel
theorem s_146_86 (cl : am_C) (ls : am_Ls) (st : List am_V) (N : Nat) (I : Nat → Int → Int) (L : Nat → Int → Int64) : am_go0 cl 146 86 ls (.inr (.inr (some 53)) :: st) (am_GS N, am_GR, I, L) = am_go0 cl 146 89 ls (.inr (.inr (some 67)) :: st) (am_GS N, am_GR, I, L) := am_rG2 am_m146 d_146_86 am_f9053 rfl (gs_53 N) (by decide) gr_53_17 rfl
theorem d_146_89 : am_code 146 89 = some (.iload_n 1, 1) := by decide +kernel
theorem s_146_89 (cl : am_C) (a0 a2 a3 : Option am_V) (x : Int) (st : List am_V) (h : am_H) : am_go0 cl 146 89 [a0, some (.inl x), a2, a3] st h = am_go0 cl 146 90 [a0, some (.inl x), a2, a3] (.inl x :: st) h := am_r am_m146 d_146_89 rfl
theorem d_146_90 : am_code 146 90 = some (.dup2, 1) := by decide +kernel
theorem s_146_90 (cl : am_C) (ls : am_Ls) (x : Int) (y : Nat) (st : List am_V) (h : am_H) : am_go0 cl 146 90 ls (.inl x :: .inr (.inr (some y)) :: st) h = am_go0 cl 146 91 ls (.inl x :: .inr (.inr (some y)) :: .inl x :: .inr (.inr (some y)) :: st) h := am_r am_m146 d_146_90 rfl
theorem d_146_91 : am_code 146 91 = some (.iaload, 1) := by decide +kernel
theorem s_146_91 (cl : am_C) (ls : am_Ls) (i : Int) (k : Nat) (st : List am_V) (N : Nat) (I : Nat → Int → Int) (L : Nat → Int → Int64) : am_go0 cl 146 91 ls (.inl i :: .inr (.inr (some k)) :: st) (am_GS N, am_GR, I, L) = if am_inb (am_GS N) k 0 i = true then am_go0 cl 146 92 ls (.inl (I k i) :: st) (am_GS N, am_GR, I, L) else none := am_rA am_m146 d_146_91 (by decide) rfl k ls st i _ _ I L
theorem d_146_92 : am_code 146 92 = some (.iconst 1, 1) := by decide +kernel
theorem s_146_92 (cl : am_C) (ls : am_Ls) (st : List am_V) (h : am_H) : am_go0 cl 146 92 ls st h = am_go0 cl 146 93 ls (.inl 1 :: st) h := am_rK am_m146 d_146_92 (by decide) rfl _ _ _
theorem d_146_93 : am_code 146 93 = some (.iadd, 1) := by decide +kernel
theorem s_146_93 (cl : am_C) (ls : am_Ls) (x y : Int) (st : List am_V) (h : am_H) : am_go0 cl 146 93 ls (.inl y :: .inl x :: st) h = am_go0 cl 146 94 ls (.inl (am_wr (x + y)) :: st) h := am_r am_m146 d_146_93 rfl
theorem d_146_94 : am_code 146 94 = some (.iastore, 1) := by decide +kernel
theorem s_146_94 (cl : am_C) (ls : am_Ls) (i : Int) (v : Int) (k : Nat) (st : List am_V) (N : Nat) (I : Nat → Int → Int) (L : Nat → Int → Int64) : am_go0 cl 146 94 ls (.inl v :: .inl i :: .inr (.inr (some k)) :: st) (am_GS N, am_GR, I, L) = if am_inb (am_GS N) k 0 i = true then am_go0 cl 146 95 ls st (am_GS N, am_GR, am_uI I k i v, L) else none := am_rS am_m146 d_146_94 rfl k ls st i v _ _ I L
theorem d_146_95 : am_code 146 95 = some (.aload_n 0, 1) := by decide +kernel
theorem s_146_95 (cl : am_C) (a1 a2 a3 : Option am_V) (x : Nat) (st : List am_V) (h : am_H) : am_go0 cl 146 95 [some (.inr (.inr (some x))), a1, a2, a3] st h = am_go0 cl 146 96 [some (.inr (.inr (some x))), a1, a2, a3] (.inr (.inr (some x)) :: st) h := am_r am_m146 d_146_95 rfl
theorem d_146_96 : am_code 146 96 = some (.aload_n 0, 1) := by decide +kernel
theorem s_146_96 (cl : am_C) (a1 a2 a3 : Option am_V) (x : Nat) (st : List am_V) (h : am_H) : am_go0 cl 146 96 [some (.inr (.inr (some x))), a1, a2, a3] st h = am_go0 cl 146 97 [some (.inr (.inr (some x))), a1, a2, a3] (.inr (.inr (some x)) :: st) h := am_r am_m146 d_146_96 rfl
theorem d_146_97 : am_code 146 97 = some (.getfield 53, 3) := by decide +kernel
theorem s_146_97 (cl : am_C) (ls : am_Ls) (st : List am_V) (N : Nat) (I : Nat → Int → Int) (L : Nat → Int → Int64) : am_go0 cl 146 97 ls (.inr (.inr (some 53)) :: st) (am_GS N, am_GR, I, L) = am_go0 cl 146 100 ls (.inr (.inr (some 67)) :: st) (am_GS N, am_GR, I, L) := am_rG2 am_m146 d_146_97 am_f9053 rfl (gs_53 N) (by decide) gr_53_17 rfl
theorem d_146_100 : am_code 146 100 = some (.iload_n 1, 1) := by decide +kernel
theorem s_146_100 (cl : am_C) (a0 a2 a3 : Option am_V) (x : Int) (st : List am_V) (h : am_H) : am_go0 cl 146 100 [a0, some (.inl x), a2, a3] st h = am_go0 cl 146 101 [a0, some (.inl x), a2, a3] (.inl x :: st) h := am_r am_m146 d_146_100 rfl
theorem d_146_101 : am_code 146 101 = some (.iaload, 1) := by decide +kernel
theorem s_146_101 (cl : am_C) (ls : am_Ls) (i : Int) (k : Nat) (st : List am_V) (N : Nat) (I : Nat → Int → Int) (L : Nat → Int → Int64) : am_go0 cl 146 101 ls (.inl i :: .inr (.inr (some k)) :: st) (am_GS N, am_GR, I, L) = if am_inb (am_GS N) k 0 i = true then am_go0 cl 146 102 ls (.inl (I k i) :: st) (am_GS N, am_GR, I, L) else none := am_rA am_m146 d_146_101 (by decide) rfl k ls st i _ _ I L
theorem d_146_102 : am_code 146 102 = some (.invokevirtual 175, 3) := by decide +kernel
theorem s_146_102 (cl : am_C) (ls : am_Ls) (x0 : Int) (N : Nat) (I : Nat → Int → Int) (L : Nat → Int → Int64) : am_go0 cl 146 102 ls [.inl x0, .inr (.inr (some 53))] (am_GS N, am_GR, I, L) = am_bd (cl 141 [.inr (.inr (some 53)), .inl x0] (am_GS N, am_GR, I, L)) (fun v h2 => am_go0 cl 146 105 ls (v.toList ++ []) h2) := am_rV am_m146 d_146_102 am_k9175 rfl am_m141 (gs_53 N) (by decide) (Nat.le_of_ble_eq_true rfl) rfl ls
theorem d_146_105 : am_code 146 105 = some (.ireturn, 1) := by decide +kernel
theorem s_146_105 (cl : am_C) (ls : am_Ls) (x : Int) (h : am_H) : am_go0 cl 146 105 ls [.inl x] h = some (some (.inl x), h) := am_rE am_m146 d_146_105 rfl
theorem e_146 (d : Nat) (t : Nat) (p0 : Int) (p1 : Int) (p2 : Int) (h : am_H) : am_call (d + 1) 146 [.inr (.inr (some t)), .inl p0, .inl p1, .inl p2] h = am_go0 (am_call d) 146 0 [some (.inr (.inr (some t))), some (.inl p0), some (.inl p1), some (.inl p2)] [] h := am_callE am_m146 (Nat.le_of_ble_eq_true rfl) rfl
theorem d_147_0 : am_code 147 0 = some (.iload_n 1, 1) := by decide +kernel
theorem s_147_0 (cl : am_C) (a0 : Option am_V) (x : Int) (st : List am_V) (h : am_H) : am_go0 cl 147 0 [a0, some (.inl x)] st h = am_go0 cl 147 1 [a0, some (.inl x)] (.inl x :: st) h := am_r am_m147 d_147_0 rfl
theorem d_147_1 : am_code 147 1 = some (.iconst 0, 1) := by decide +kernel
theorem s_147_1 (cl : am_C) (ls : am_Ls) (st : List am_V) (h : am_H) : am_go0 cl 147 1 ls st h = am_go0 cl 147 2 ls (.inl 0 :: st) h := am_rK am_m147 d_147_1 (by decide) rfl _ _ _
theorem d_147_2 : am_code 147 2 = some (.aload_n 0, 1) := by decide +kernel
theorem s_147_2 (cl : am_C) (a1 : Option am_V) (x : Nat) (st : List am_V) (h : am_H) : am_go0 cl 147 2 [some (.inr (.inr (some x))), a1] st h = am_go0 cl 147 3 [some (.inr (.inr (some x))), a1] (.inr (.inr (some x)) :: st) h := am_r am_m147 d_147_2 rfl
theorem d_147_3 : am_code 147 3 = some (.getfield 169, 3) := by decide +kernel
theorem s_147_3 (cl : am_C) (ls : am_Ls) (st : List am_V) (N : Nat) (I : Nat → Int → Int) (L : Nat → Int → Int64) : am_go0 cl 147 3 ls (.inr (.inr (some 53)) :: st) (am_GS N, am_GR, I, L) = am_go0 cl 147 6 ls (.inl (I 53 14) :: st) (am_GS N, am_GR, I, L) := am_rG0 am_m147 d_147_3 am_f9169 rfl (gs_53 N) (by decide) rfl
theorem d_147_6 : am_code 147 6 = some (.iconst 1, 1) := by decide +kernel
theorem s_147_6 (cl : am_C) (ls : am_Ls) (st : List am_V) (h : am_H) : am_go0 cl 147 6 ls st h = am_go0 cl 147 7 ls (.inl 1 :: st) h := am_rK am_m147 d_147_6 (by decide) rfl _ _ _
theorem d_147_7 : am_code 147 7 = some (.isub, 1) := by decide +kernel
theorem s_147_7 (cl : am_C) (ls : am_Ls) (x y : Int) (st : List am_V) (h : am_H) : am_go0 cl 147 7 ls (.inl y :: .inl x :: st) h = am_go0 cl 147 8 ls (.inl (am_wr (x - y)) :: st) h := am_r am_m147 d_147_7 rfl
theorem d_147_8 : am_code 147 8 = some (.invokestatic 151, 3) := by decide +kernel
theorem s_147_8 (cl : am_C) (ls : am_Ls) (x0 : Int) (x1 : Int) (x2 : Int) (h : am_H) : am_go0 cl 147 8 ls [.inl x2, .inl x1, .inl x0] h = am_bd (cl 135 [.inl x0, .inl x1, .inl x2] h) (fun v h2 => am_go0 cl 147 11 ls (v.toList ++ []) h2) := am_rVs am_m147 d_147_8 am_k9151 rfl (Nat.le_of_ble_eq_true rfl) rfl ls
theorem d_147_11 : am_code 147 11 = some (.ireturn, 1) := by decide +kernel
theorem s_147_11 (cl : am_C) (ls : am_Ls) (x : Int) (h : am_H) : am_go0 cl 147 11 ls [.inl x] h = if x = 0 ∨ x = 1 then some (some (.inl x), h) else none := am_rRz am_m147 d_147_11 x ls h
theorem e_147 (d : Nat) (t : Nat) (p0 : Int) (h : am_H) : am_call (d + 1) 147 [.inr (.inr (some t)), .inl p0] h = am_go0 (am_call d) 147 0 [some (.inr (.inr (some t))), some (.inl p0)] [] h := am_callE am_m147 (Nat.le_of_ble_eq_true rfl) rfl
theorem d_148_0 : am_code 148 0 = some (.aload_n 0, 1) := by decide +kernel
theorem s_148_0 (cl : am_C) (a1 a2 a3 a4 a5 : Option am_V) (x : Nat) (st : List am_V) (h : am_H) : am_go0 cl 148 0 [some (.inr (.inr (some x))), a1, a2, a3, a4, a5] st h = am_go0 cl 148 1 [some (.inr (.inr (some x))), a1, a2, a3, a4, a5] (.inr (.inr (some x)) :: st) h := am_r am_m148 d_148_0 rfl
theorem d_148_1 : am_code 148 1 = some (.iload_n 1, 1) := by decide +kernel
theorem s_148_1 (cl : am_C) (a0 a2 a3 a4 a5 : Option am_V) (x : Int) (st : List am_V) (h : am_H) : am_go0 cl 148 1 [a0, some (.inl x), a2, a3, a4, a5] st h = am_go0 cl 148 2 [a0, some (.inl x), a2, a3, a4, a5] (.inl x :: st) h := am_r am_m148 d_148_1 rfl
theorem d_148_2 : am_code 148 2 = some (.iload_n 2, 1) := by decide +kernel
theorem s_148_2 (cl : am_C) (a0 a1 a3 a4 a5 : Option am_V) (x : Int) (st : List am_V) (h : am_H) : am_go0 cl 148 2 [a0, a1, some (.inl x), a3, a4, a5] st h = am_go0 cl 148 3 [a0, a1, some (.inl x), a3, a4, a5] (.inl x :: st) h := am_r am_m148 d_148_2 rfl
theorem d_148_3 : am_code 148 3 = some (.iload_n 3, 1) := by decide +kernel
theorem s_148_3 (cl : am_C) (a0 a1 a2 a4 a5 : Option am_V) (x : Int) (st : List am_V) (h : am_H) : am_go0 cl 148 3 [a0, a1, a2, some (.inl x), a4, a5] st h = am_go0 cl 148 4 [a0, a1, a2, some (.inl x), a4, a5] (.inl x :: st) h := am_r am_m148 d_148_3 rfl
theorem d_148_4 : am_code 148 4 = some (.iload 4, 2) := by decide +kernel
theorem s_148_4 (cl : am_C) (a0 a1 a2 a3 a5 : Option am_V) (x : Int) (st : List am_V) (h : am_H) : am_go0 cl 148 4 [a0, a1, a2, a3, some (.inl x), a5] st h = am_go0 cl 148 6 [a0, a1, a2, a3, some (.inl x), a5] (.inl x :: st) h := am_r am_m148 d_148_4 rfl
theorem d_148_6 : am_code 148 6 = some (.invokevirtual 195, 3) := by decide +kernel
theorem s_148_6 (cl : am_C) (ls : am_Ls) (x0 : Int) (x1 : Int) (x2 : Int) (x3 : Int) (N : Nat) (I : Nat → Int → Int) (L : Nat → Int → Int64) : am_go0 cl 148 6 ls [.inl x3, .inl x2, .inl x1, .inl x0, .inr (.inr (some 53))] (am_GS N, am_GR, I, L) = am_bd (cl 149 [.inr (.inr (some 53)), .inl x0, .inl x1, .inl x2, .inl x3] (am_GS N, am_GR, I, L)) (fun v h2 => am_go0 cl 148 9 ls (v.toList ++ []) h2) := am_rV am_m148 d_148_6 am_k9195 rfl am_m149 (gs_53 N) (by decide) (Nat.le_of_ble_eq_true rfl) rfl ls
theorem d_148_9 : am_code 148 9 = some (.ifCond .ne 6, 3) := by decide +kernel
theorem s_148_9 (cl : am_C) (ls : am_Ls) (x : Int) (st : List am_V) (h : am_H) : am_go0 cl 148 9 ls (.inl x :: st) h = if x = 0 then am_go0 cl 148 12 ls st h else am_go0 cl 148 15 ls st h := (am_rJ1 am_m148 d_148_9 (by decide) rfl x ls st h).trans (am_ifF ((am_cmp_ne x 0).trans Iff.rfl) _ _)
theorem d_148_12 : am_code 148 12 = some (.bipush (-2), 2) := by decide +kernel
theorem s_148_12 (cl : am_C) (ls : am_Ls) (st : List am_V) (h : am_H) : am_go0 cl 148 12 ls st h = am_go0 cl 148 14 ls (.inl (-2) :: st) h := am_rB am_m148 d_148_12 (by decide) rfl _ _ _
theorem d_148_14 : am_code 148 14 = some (.ireturn, 1) := by decide +kernel
theorem s_148_14 (cl : am_C) (ls : am_Ls) (x : Int) (h : am_H) : am_go0 cl 148 14 ls [.inl x] h = some (some (.inl x), h) := am_rE am_m148 d_148_14 rfl
theorem d_148_15 : am_code 148 15 = some (.iload_n 1, 1) := by decide +kernel
theorem s_148_15 (cl : am_C) (a0 a2 a3 a4 a5 : Option am_V) (x : Int) (st : List am_V) (h : am_H) : am_go0 cl 148 15 [a0, some (.inl x), a2, a3, a4, a5] st h = am_go0 cl 148 16 [a0, some (.inl x), a2, a3, a4, a5] (.inl x :: st) h := am_r am_m148 d_148_15 rfl
theorem d_148_16 : am_code 148 16 = some (.iconst 5, 1) := by decide +kernel
theorem s_148_16 (cl : am_C) (ls : am_Ls) (st : List am_V) (h : am_H) : am_go0 cl 148 16 ls st h = am_go0 cl 148 17 ls (.inl 5 :: st) h := am_rK am_m148 d_148_16 (by decide) rfl _ _ _
theorem d_148_17 : am_code 148 17 = some (.if_icmp .ge 7, 3) := by decide +kernel
theorem s_148_17 (cl : am_C) (ls : am_Ls) (x y : Int) (st : List am_V) (h : am_H) : am_go0 cl 148 17 ls (.inl y :: .inl x :: st) h = if x < y then am_go0 cl 148 20 ls st h else am_go0 cl 148 24 ls st h := (am_rJ0 am_m148 d_148_17 (by decide) rfl x y ls st h).trans (am_ifF ((am_cmp_ge x y).trans Int.not_lt.symm) _ _)
theorem d_148_20 : am_code 148 20 = some (.iconst 0, 1) := by decide +kernel
theorem s_148_20 (cl : am_C) (ls : am_Ls) (st : List am_V) (h : am_H) : am_go0 cl 148 20 ls st h = am_go0 cl 148 21 ls (.inl 0 :: st) h := am_rK am_m148 d_148_20 (by decide) rfl _ _ _
theorem d_148_21 : am_code 148 21 = some (.goto 40, 3) := by decide +kernel
theorem s_148_21 (cl : am_C) (ls : am_Ls) (st : List am_V) (h : am_H) : am_go0 cl 148 21 ls st h = am_go0 cl 148 61 ls st h := am_rGo am_m148 d_148_21 (by decide) _ _ _
theorem d_148_24 : am_code 148 24 = some (.iconst 1, 1) := by decide +kernel
theorem s_148_24 (cl : am_C) (ls : am_Ls) (st : List am_V) (h : am_H) : am_go0 cl 148 24 ls st h = am_go0 cl 148 25 ls (.inl 1 :: st) h := am_rK am_m148 d_148_24 (by decide) rfl _ _ _
theorem d_148_25 : am_code 148 25 = some (.aload_n 0, 1) := by decide +kernel
theorem s_148_25 (cl : am_C) (a1 a2 a3 a4 a5 : Option am_V) (x : Nat) (st : List am_V) (h : am_H) : am_go0 cl 148 25 [some (.inr (.inr (some x))), a1, a2, a3, a4, a5] st h = am_go0 cl 148 26 [some (.inr (.inr (some x))), a1, a2, a3, a4, a5] (.inr (.inr (some x)) :: st) h := am_r am_m148 d_148_25 rfl
theorem d_148_26 : am_code 148 26 = some (.getfield 77, 3) := by decide +kernel
theorem s_148_26 (cl : am_C) (ls : am_Ls) (st : List am_V) (N : Nat) (I : Nat → Int → Int) (L : Nat → Int → Int64) : am_go0 cl 148 26 ls (.inr (.inr (some 53)) :: st) (am_GS N, am_GR, I, L) = am_go0 cl 148 29 ls (.inr (.inr (some 75)) :: st) (am_GS N, am_GR, I, L) := am_rG2 am_m148 d_148_26 am_f9077 rfl (gs_53 N) (by decide) gr_53_26 rfl
theorem d_148_29 : am_code 148 29 = some (.iload_n 2, 1) := by decide +kernel
theorem s_148_29 (cl : am_C) (a0 a1 a3 a4 a5 : Option am_V) (x : Int) (st : List am_V) (h : am_H) : am_go0 cl 148 29 [a0, a1, some (.inl x), a3, a4, a5] st h = am_go0 cl 148 30 [a0, a1, some (.inl x), a3, a4, a5] (.inl x :: st) h := am_r am_m148 d_148_29 rfl
theorem d_148_30 : am_code 148 30 = some (.iaload, 1) := by decide +kernel
theorem s_148_30 (cl : am_C) (ls : am_Ls) (i : Int) (k : Nat) (st : List am_V) (N : Nat) (I : Nat → Int → Int) (L : Nat → Int → Int64) : am_go0 cl 148 30 ls (.inl i :: .inr (.inr (some k)) :: st) (am_GS N, am_GR, I, L) = if am_inb (am_GS N) k 0 i = true then am_go0 cl 148 31 ls (.inl (I k i) :: st) (am_GS N, am_GR, I, L) else none := am_rA am_m148 d_148_30 (by decide) rfl k ls st i _ _ I L
theorem d_148_31 : am_code 148 31 = some (.aload_n 0, 1) := by decide +kernel
theorem s_148_31 (cl : am_C) (a1 a2 a3 a4 a5 : Option am_V) (x : Nat) (st : List am_V) (h : am_H) : am_go0 cl 148 31 [some (.inr (.inr (some x))), a1, a2, a3, a4, a5] st h = am_go0 cl 148 32 [some (.inr (.inr (some x))), a1, a2, a3, a4, a5] (.inr (.inr (some x)) :: st) h := am_r am_m148 d_148_31 rfl
theorem d_148_32 : am_code 148 32 = some (.getfield 77, 3) := by decide +kernel
theorem s_148_32 (cl : am_C) (ls : am_Ls) (st : List am_V) (N : Nat) (I : Nat → Int → Int) (L : Nat → Int → Int64) : am_go0 cl 148 32 ls (.inr (.inr (some 53)) :: st) (am_GS N, am_GR, I, L) = am_go0 cl 148 35 ls (.inr (.inr (some 75)) :: st) (am_GS N, am_GR, I, L) := am_rG2 am_m148 d_148_32 am_f9077 rfl (gs_53 N) (by decide) gr_53_26 rfl
theorem d_148_35 : am_code 148 35 = some (.iload_n 3, 1) := by decide +kernel
theorem s_148_35 (cl : am_C) (a0 a1 a2 a4 a5 : Option am_V) (x : Int) (st : List am_V) (h : am_H) : am_go0 cl 148 35 [a0, a1, a2, some (.inl x), a4, a5] st h = am_go0 cl 148 36 [a0, a1, a2, some (.inl x), a4, a5] (.inl x :: st) h := am_r am_m148 d_148_35 rfl
theorem d_148_36 : am_code 148 36 = some (.iaload, 1) := by decide +kernel
theorem s_148_36 (cl : am_C) (ls : am_Ls) (i : Int) (k : Nat) (st : List am_V) (N : Nat) (I : Nat → Int → Int) (L : Nat → Int → Int64) : am_go0 cl 148 36 ls (.inl i :: .inr (.inr (some k)) :: st) (am_GS N, am_GR, I, L) = if am_inb (am_GS N) k 0 i = true then am_go0 cl 148 37 ls (.inl (I k i) :: st) (am_GS N, am_GR, I, L) else none := am_rA am_m148 d_148_36 (by decide) rfl k ls st i _ _ I L
theorem d_148_37 : am_code 148 37 = some (.iload_n 1, 1) := by decide +kernel
theorem s_148_37 (cl : am_C) (a0 a2 a3 a4 a5 : Option am_V) (x : Int) (st : List am_V) (h : am_H) : am_go0 cl 148 37 [a0, some (.inl x), a2, a3, a4, a5] st h = am_go0 cl 148 38 [a0, some (.inl x), a2, a3, a4, a5] (.inl x :: st) h := am_r am_m148 d_148_37 rfl
theorem d_148_38 : am_code 148 38 = some (.bipush 9, 2) := by decide +kernel
theorem s_148_38 (cl : am_C) (ls : am_Ls) (st : List am_V) (h : am_H) : am_go0 cl 148 38 ls st h = am_go0 cl 148 40 ls (.inl 9 :: st) h := am_rB am_m148 d_148_38 (by decide) rfl _ _ _
theorem d_148_40 : am_code 148 40 = some (.if_icmp .ne 13, 3) := by decide +kernel
theorem s_148_40 (cl : am_C) (ls : am_Ls) (x y : Int) (st : List am_V) (h : am_H) : am_go0 cl 148 40 ls (.inl y :: .inl x :: st) h = if x = y then am_go0 cl 148 43 ls st h else am_go0 cl 148 53 ls st h := (am_rJ0 am_m148 d_148_40 (by decide) rfl x y ls st h).trans (am_ifF ((am_cmp_ne x y).trans Iff.rfl) _ _)
theorem d_148_43 : am_code 148 43 = some (.aload_n 0, 1) := by decide +kernel
theorem s_148_43 (cl : am_C) (a1 a2 a3 a4 a5 : Option am_V) (x : Nat) (st : List am_V) (h : am_H) : am_go0 cl 148 43 [some (.inr (.inr (some x))), a1, a2, a3, a4, a5] st h = am_go0 cl 148 44 [some (.inr (.inr (some x))), a1, a2, a3, a4, a5] (.inr (.inr (some x)) :: st) h := am_r am_m148 d_148_43 rfl
theorem d_148_44 : am_code 148 44 = some (.getfield 77, 3) := by decide +kernel
theorem s_148_44 (cl : am_C) (ls : am_Ls) (st : List am_V) (N : Nat) (I : Nat → Int → Int) (L : Nat → Int → Int64) : am_go0 cl 148 44 ls (.inr (.inr (some 53)) :: st) (am_GS N, am_GR, I, L) = am_go0 cl 148 47 ls (.inr (.inr (some 75)) :: st) (am_GS N, am_GR, I, L) := am_rG2 am_m148 d_148_44 am_f9077 rfl (gs_53 N) (by decide) gr_53_26 rfl
theorem d_148_47 : am_code 148 47 = some (.iload 4, 2) := by decide +kernel
theorem s_148_47 (cl : am_C) (a0 a1 a2 a3 a5 : Option am_V) (x : Int) (st : List am_V) (h : am_H) : am_go0 cl 148 47 [a0, a1, a2, a3, some (.inl x), a5] st h = am_go0 cl 148 49 [a0, a1, a2, a3, some (.inl x), a5] (.inl x :: st) h := am_r am_m148 d_148_47 rfl
theorem d_148_49 : am_code 148 49 = some (.iaload, 1) := by decide +kernel
theorem s_148_49 (cl : am_C) (ls : am_Ls) (i : Int) (k : Nat) (st : List am_V) (N : Nat) (I : Nat → Int → Int) (L : Nat → Int → Int64) : am_go0 cl 148 49 ls (.inl i :: .inr (.inr (some k)) :: st) (am_GS N, am_GR, I, L) = if am_inb (am_GS N) k 0 i = true then am_go0 cl 148 50 ls (.inl (I k i) :: st) (am_GS N, am_GR, I, L) else none := am_rA am_m148 d_148_49 (by decide) rfl k ls st i _ _ I L
theorem d_148_50 : am_code 148 50 = some (.goto 4, 3) := by decide +kernel
theorem s_148_50 (cl : am_C) (ls : am_Ls) (st : List am_V) (h : am_H) : am_go0 cl 148 50 ls st h = am_go0 cl 148 54 ls st h := am_rGo am_m148 d_148_50 (by decide) _ _ _
theorem d_148_53 : am_code 148 53 = some (.iconst 0, 1) := by decide +kernel
theorem s_148_53 (cl : am_C) (ls : am_Ls) (st : List am_V) (h : am_H) : am_go0 cl 148 53 ls st h = am_go0 cl 148 54 ls (.inl 0 :: st) h := am_rK am_m148 d_148_53 (by decide) rfl _ _ _
theorem d_148_54 : am_code 148 54 = some (.invokestatic 199, 3) := by decide +kernel
theorem s_148_54 (cl : am_C) (ls : am_Ls) (x0 : Int) (x1 : Int) (z0 : Int) (z1 : Int) (h : am_H) : am_go0 cl 148 54 ls [.inl x1, .inl x0, .inl z0, .inl z1] h = am_bd (cl 151 [.inl x0, .inl x1] h) (fun v h2 => am_go0 cl 148 57 ls (v.toList ++ [.inl z0, .inl z1]) h2) := am_rVs am_m148 d_148_54 am_k9199 rfl (Nat.le_of_ble_eq_true rfl) rfl ls
theorem d_148_57 : am_code 148 57 = some (.invokestatic 199, 3) := by decide +kernel
theorem s_148_57 (cl : am_C) (ls : am_Ls) (x0 : Int) (x1 : Int) (z0 : Int) (h : am_H) : am_go0 cl 148 57 ls [.inl x1, .inl x0, .inl z0] h = am_bd (cl 151 [.inl x0, .inl x1] h) (fun v h2 => am_go0 cl 148 60 ls (v.toList ++ [.inl z0]) h2) := am_rVs am_m148 d_148_57 am_k9199 rfl (Nat.le_of_ble_eq_true rfl) rfl ls
theorem d_148_60 : am_code 148 60 = some (.iadd, 1) := by decide +kernel
theorem s_148_60 (cl : am_C) (ls : am_Ls) (x y : Int) (st : List am_V) (h : am_H) : am_go0 cl 148 60 ls (.inl y :: .inl x :: st) h = am_go0 cl 148 61 ls (.inl (am_wr (x + y)) :: st) h := am_r am_m148 d_148_60 rfl
theorem d_148_61 : am_code 148 61 = some (.istore 5, 2) := by decide +kernel
theorem s_148_61 (cl : am_C) (a0 a1 a2 a3 a4 a5 : Option am_V) (x : Int) (st : List am_V) (h : am_H) : am_go0 cl 148 61 [a0, a1, a2, a3, a4, a5] (.inl x :: st) h = am_go0 cl 148 63 [a0, a1, a2, a3, am_c1 a4, some (.inl x)] st h := am_r am_m148 d_148_61 rfl
theorem d_148_63 : am_code 148 63 = some (.iload 5, 2) := by decide +kernel
theorem s_148_63 (cl : am_C) (a0 a1 a2 a3 a4 : Option am_V) (x : Int) (st : List am_V) (h : am_H) : am_go0 cl 148 63 [a0, a1, a2, a3, a4, some (.inl x)] st h = am_go0 cl 148 65 [a0, a1, a2, a3, a4, some (.inl x)] (.inl x :: st) h := am_r am_m148 d_148_63 rfl
theorem d_148_65 : am_code 148 65 = some (.bipush 8, 2) := by decide +kernel
theorem s_148_65 (cl : am_C) (ls : am_Ls) (st : List am_V) (h : am_H) : am_go0 cl 148 65 ls st h = am_go0 cl 148 67 ls (.inl 8 :: st) h := am_rB am_m148 d_148_65 (by decide) rfl _ _ _
theorem d_148_67 : am_code 148 67 = some (.if_icmp .le 6, 3) := by decide +kernel
theorem s_148_67 (cl : am_C) (ls : am_Ls) (x y : Int) (st : List am_V) (h : am_H) : am_go0 cl 148 67 ls (.inl y :: .inl x :: st) h = if y < x then am_go0 cl 148 70 ls st h else am_go0 cl 148 73 ls st h := (am_rJ0 am_m148 d_148_67 (by decide) rfl x y ls st h).trans (am_ifF ((am_cmp_le x y).trans Int.not_lt.symm) _ _)
theorem d_148_70 : am_code 148 70 = some (.bipush (-2), 2) := by decide +kernel
theorem s_148_70 (cl : am_C) (ls : am_Ls) (st : List am_V) (h : am_H) : am_go0 cl 148 70 ls st h = am_go0 cl 148 72 ls (.inl (-2) :: st) h := am_rB am_m148 d_148_70 (by decide) rfl _ _ _
theorem d_148_72 : am_code 148 72 = some (.ireturn, 1) := by decide +kernel
theorem s_148_72 (cl : am_C) (ls : am_Ls) (x : Int) (h : am_H) : am_go0 cl 148 72 ls [.inl x] h = some (some (.inl x), h) := am_rE am_m148 d_148_72 rfl
theorem d_148_73 : am_code 148 73 = some (.aload_n 0, 1) := by decide +kernel
theorem s_148_73 (cl : am_C) (a1 a2 a3 a4 a5 : Option am_V) (x : Nat) (st : List am_V) (h : am_H) : am_go0 cl 148 73 [some (.inr (.inr (some x))), a1, a2, a3, a4, a5] st h = am_go0 cl 148 74 [some (.inr (.inr (some x))), a1, a2, a3, a4, a5] (.inr (.inr (some x)) :: st) h := am_r am_m148 d_148_73 rfl
theorem d_148_74 : am_code 148 74 = some (.getfield 189, 3) := by decide +kernel
theorem s_148_74 (cl : am_C) (ls : am_Ls) (st : List am_V) (N : Nat) (I : Nat → Int → Int) (L : Nat → Int → Int64) : am_go0 cl 148 74 ls (.inr (.inr (some 53)) :: st) (am_GS N, am_GR, I, L) = am_go0 cl 148 77 ls (.inl (I 53 21) :: st) (am_GS N, am_GR, I, L) := am_rG0 am_m148 d_148_74 am_f9189 rfl (gs_53 N) (by decide) rfl
theorem d_148_77 : am_code 148 77 = some (.bipush 80, 2) := by decide +kernel
theorem s_148_77 (cl : am_C) (ls : am_Ls) (st : List am_V) (h : am_H) : am_go0 cl 148 77 ls st h = am_go0 cl 148 79 ls (.inl 80 :: st) h := am_rB am_m148 d_148_77 (by decide) rfl _ _ _
theorem d_148_79 : am_code 148 79 = some (.if_icmp .ne 6, 3) := by decide +kernel
theorem s_148_79 (cl : am_C) (ls : am_Ls) (x y : Int) (st : List am_V) (h : am_H) : am_go0 cl 148 79 ls (.inl y :: .inl x :: st) h = if x = y then am_go0 cl 148 82 ls st h else am_go0 cl 148 85 ls st h := (am_rJ0 am_m148 d_148_79 (by decide) rfl x y ls st h).trans (am_ifF ((am_cmp_ne x y).trans Iff.rfl) _ _)
theorem d_148_82 : am_code 148 82 = some (.bipush (-3), 2) := by decide +kernel
theorem s_148_82 (cl : am_C) (ls : am_Ls) (st : List am_V) (h : am_H) : am_go0 cl 148 82 ls st h = am_go0 cl 148 84 ls (.inl (-3) :: st) h := am_rB am_m148 d_148_82 (by decide) rfl _ _ _
theorem d_148_84 : am_code 148 84 = some (.ireturn, 1) := by decide +kernel
theorem s_148_84 (cl : am_C) (ls : am_Ls) (x : Int) (h : am_H) : am_go0 cl 148 84 ls [.inl x] h = some (some (.inl x), h) := am_rE am_m148 d_148_84 rfl
theorem d_148_85 : am_code 148 85 = some (.aload_n 0, 1) := by decide +kernel
theorem s_148_85 (cl : am_C) (a1 a2 a3 a4 a5 : Option am_V) (x : Nat) (st : List am_V) (h : am_H) : am_go0 cl 148 85 [some (.inr (.inr (some x))), a1, a2, a3, a4, a5] st h = am_go0 cl 148 86 [some (.inr (.inr (some x))), a1, a2, a3, a4, a5] (.inr (.inr (some x)) :: st) h := am_r am_m148 d_148_85 rfl
theorem d_148_86 : am_code 148 86 = some (.getfield 65, 3) := by decide +kernel
theorem s_148_86 (cl : am_C) (ls : am_Ls) (st : List am_V) (N : Nat) (I : Nat → Int → Int) (L : Nat → Int → Int64) : am_go0 cl 148 86 ls (.inr (.inr (some 53)) :: st) (am_GS N, am_GR, I, L) = am_go0 cl 148 89 ls (.inr (.inr (some 71)) :: st) (am_GS N, am_GR, I, L) := am_rG2 am_m148 d_148_86 am_f9065 rfl (gs_53 N) (by decide) gr_53_22 rfl
theorem d_148_89 : am_code 148 89 = some (.aload_n 0, 1) := by decide +kernel
theorem s_148_89 (cl : am_C) (a1 a2 a3 a4 a5 : Option am_V) (x : Nat) (st : List am_V) (h : am_H) : am_go0 cl 148 89 [some (.inr (.inr (some x))), a1, a2, a3, a4, a5] st h = am_go0 cl 148 90 [some (.inr (.inr (some x))), a1, a2, a3, a4, a5] (.inr (.inr (some x)) :: st) h := am_r am_m148 d_148_89 rfl
theorem d_148_90 : am_code 148 90 = some (.getfield 189, 3) := by decide +kernel
theorem s_148_90 (cl : am_C) (ls : am_Ls) (st : List am_V) (N : Nat) (I : Nat → Int → Int) (L : Nat → Int → Int64) : am_go0 cl 148 90 ls (.inr (.inr (some 53)) :: st) (am_GS N, am_GR, I, L) = am_go0 cl 148 93 ls (.inl (I 53 21) :: st) (am_GS N, am_GR, I, L) := am_rG0 am_m148 d_148_90 am_f9189 rfl (gs_53 N) (by decide) rfl
theorem d_148_93 : am_code 148 93 = some (.iload_n 1, 1) := by decide +kernel
theorem s_148_93 (cl : am_C) (a0 a2 a3 a4 a5 : Option am_V) (x : Int) (st : List am_V) (h : am_H) : am_go0 cl 148 93 [a0, some (.inl x), a2, a3, a4, a5] st h = am_go0 cl 148 94 [a0, some (.inl x), a2, a3, a4, a5] (.inl x :: st) h := am_r am_m148 d_148_93 rfl
theorem d_148_94 : am_code 148 94 = some (.iastore, 1) := by decide +kernel
theorem s_148_94 (cl : am_C) (ls : am_Ls) (i : Int) (v : Int) (k : Nat) (st : List am_V) (N : Nat) (I : Nat → Int → Int) (L : Nat → Int → Int64) : am_go0 cl 148 94 ls (.inl v :: .inl i :: .inr (.inr (some k)) :: st) (am_GS N, am_GR, I, L) = if am_inb (am_GS N) k 0 i = true then am_go0 cl 148 95 ls st (am_GS N, am_GR, am_uI I k i v, L) else none := am_rS am_m148 d_148_94 rfl k ls st i v _ _ I L
theorem d_148_95 : am_code 148 95 = some (.aload_n 0, 1) := by decide +kernel
theorem s_148_95 (cl : am_C) (a1 a2 a3 a4 a5 : Option am_V) (x : Nat) (st : List am_V) (h : am_H) : am_go0 cl 148 95 [some (.inr (.inr (some x))), a1, a2, a3, a4, a5] st h = am_go0 cl 148 96 [some (.inr (.inr (some x))), a1, a2, a3, a4, a5] (.inr (.inr (some x)) :: st) h := am_r am_m148 d_148_95 rfl
theorem d_148_96 : am_code 148 96 = some (.getfield 68, 3) := by decide +kernel
theorem s_148_96 (cl : am_C) (ls : am_Ls) (st : List am_V) (N : Nat) (I : Nat → Int → Int) (L : Nat → Int → Int64) : am_go0 cl 148 96 ls (.inr (.inr (some 53)) :: st) (am_GS N, am_GR, I, L) = am_go0 cl 148 99 ls (.inr (.inr (some 72)) :: st) (am_GS N, am_GR, I, L) := am_rG2 am_m148 d_148_96 am_f9068 rfl (gs_53 N) (by decide) gr_53_23 rfl
theorem d_148_99 : am_code 148 99 = some (.aload_n 0, 1) := by decide +kernel
theorem s_148_99 (cl : am_C) (a1 a2 a3 a4 a5 : Option am_V) (x : Nat) (st : List am_V) (h : am_H) : am_go0 cl 148 99 [some (.inr (.inr (some x))), a1, a2, a3, a4, a5] st h = am_go0 cl 148 100 [some (.inr (.inr (some x))), a1, a2, a3, a4, a5] (.inr (.inr (some x)) :: st) h := am_r am_m148 d_148_99 rfl
theorem d_148_100 : am_code 148 100 = some (.getfield 189, 3) := by decide +kernel
theorem s_148_100 (cl : am_C) (ls : am_Ls) (st : List am_V) (N : Nat) (I : Nat → Int → Int) (L : Nat → Int → Int64) : am_go0 cl 148 100 ls (.inr (.inr (some 53)) :: st) (am_GS N, am_GR, I, L) = am_go0 cl 148 103 ls (.inl (I 53 21) :: st) (am_GS N, am_GR, I, L) := am_rG0 am_m148 d_148_100 am_f9189 rfl (gs_53 N) (by decide) rfl
theorem d_148_103 : am_code 148 103 = some (.iload_n 2, 1) := by decide +kernel
theorem s_148_103 (cl : am_C) (a0 a1 a3 a4 a5 : Option am_V) (x : Int) (st : List am_V) (h : am_H) : am_go0 cl 148 103 [a0, a1, some (.inl x), a3, a4, a5] st h = am_go0 cl 148 104 [a0, a1, some (.inl x), a3, a4, a5] (.inl x :: st) h := am_r am_m148 d_148_103 rfl
theorem d_148_104 : am_code 148 104 = some (.iastore, 1) := by decide +kernel
theorem s_148_104 (cl : am_C) (ls : am_Ls) (i : Int) (v : Int) (k : Nat) (st : List am_V) (N : Nat) (I : Nat → Int → Int) (L : Nat → Int → Int64) : am_go0 cl 148 104 ls (.inl v :: .inl i :: .inr (.inr (some k)) :: st) (am_GS N, am_GR, I, L) = if am_inb (am_GS N) k 0 i = true then am_go0 cl 148 105 ls st (am_GS N, am_GR, am_uI I k i v, L) else none := am_rS am_m148 d_148_104 rfl k ls st i v _ _ I L
theorem d_148_105 : am_code 148 105 = some (.aload_n 0, 1) := by decide +kernel
theorem s_148_105 (cl : am_C) (a1 a2 a3 a4 a5 : Option am_V) (x : Nat) (st : List am_V) (h : am_H) : am_go0 cl 148 105 [some (.inr (.inr (some x))), a1, a2, a3, a4, a5] st h = am_go0 cl 148 106 [some (.inr (.inr (some x))), a1, a2, a3, a4, a5] (.inr (.inr (some x)) :: st) h := am_r am_m148 d_148_105 rfl
theorem d_148_106 : am_code 148 106 = some (.getfield 71, 3) := by decide +kernel
theorem s_148_106 (cl : am_C) (ls : am_Ls) (st : List am_V) (N : Nat) (I : Nat → Int → Int) (L : Nat → Int → Int64) : am_go0 cl 148 106 ls (.inr (.inr (some 53)) :: st) (am_GS N, am_GR, I, L) = am_go0 cl 148 109 ls (.inr (.inr (some 73)) :: st) (am_GS N, am_GR, I, L) := am_rG2 am_m148 d_148_106 am_f9071 rfl (gs_53 N) (by decide) gr_53_24 rfl
theorem d_148_109 : am_code 148 109 = some (.aload_n 0, 1) := by decide +kernel
theorem s_148_109 (cl : am_C) (a1 a2 a3 a4 a5 : Option am_V) (x : Nat) (st : List am_V) (h : am_H) : am_go0 cl 148 109 [some (.inr (.inr (some x))), a1, a2, a3, a4, a5] st h = am_go0 cl 148 110 [some (.inr (.inr (some x))), a1, a2, a3, a4, a5] (.inr (.inr (some x)) :: st) h := am_r am_m148 d_148_109 rfl
theorem d_148_110 : am_code 148 110 = some (.getfield 189, 3) := by decide +kernel
theorem s_148_110 (cl : am_C) (ls : am_Ls) (st : List am_V) (N : Nat) (I : Nat → Int → Int) (L : Nat → Int → Int64) : am_go0 cl 148 110 ls (.inr (.inr (some 53)) :: st) (am_GS N, am_GR, I, L) = am_go0 cl 148 113 ls (.inl (I 53 21) :: st) (am_GS N, am_GR, I, L) := am_rG0 am_m148 d_148_110 am_f9189 rfl (gs_53 N) (by decide) rfl
theorem d_148_113 : am_code 148 113 = some (.iload_n 3, 1) := by decide +kernel
theorem s_148_113 (cl : am_C) (a0 a1 a2 a4 a5 : Option am_V) (x : Int) (st : List am_V) (h : am_H) : am_go0 cl 148 113 [a0, a1, a2, some (.inl x), a4, a5] st h = am_go0 cl 148 114 [a0, a1, a2, some (.inl x), a4, a5] (.inl x :: st) h := am_r am_m148 d_148_113 rfl
theorem d_148_114 : am_code 148 114 = some (.iastore, 1) := by decide +kernel
theorem s_148_114 (cl : am_C) (ls : am_Ls) (i : Int) (v : Int) (k : Nat) (st : List am_V) (N : Nat) (I : Nat → Int → Int) (L : Nat → Int → Int64) : am_go0 cl 148 114 ls (.inl v :: .inl i :: .inr (.inr (some k)) :: st) (am_GS N, am_GR, I, L) = if am_inb (am_GS N) k 0 i = true then am_go0 cl 148 115 ls st (am_GS N, am_GR, am_uI I k i v, L) else none := am_rS am_m148 d_148_114 rfl k ls st i v _ _ I L
theorem d_148_115 : am_code 148 115 = some (.aload_n 0, 1) := by decide +kernel
theorem s_148_115 (cl : am_C) (a1 a2 a3 a4 a5 : Option am_V) (x : Nat) (st : List am_V) (h : am_H) : am_go0 cl 148 115 [some (.inr (.inr (some x))), a1, a2, a3, a4, a5] st h = am_go0 cl 148 116 [some (.inr (.inr (some x))), a1, a2, a3, a4, a5] (.inr (.inr (some x)) :: st) h := am_r am_m148 d_148_115 rfl
theorem d_148_116 : am_code 148 116 = some (.getfield 74, 3) := by decide +kernel
theorem s_148_116 (cl : am_C) (ls : am_Ls) (st : List am_V) (N : Nat) (I : Nat → Int → Int) (L : Nat → Int → Int64) : am_go0 cl 148 116 ls (.inr (.inr (some 53)) :: st) (am_GS N, am_GR, I, L) = am_go0 cl 148 119 ls (.inr (.inr (some 74)) :: st) (am_GS N, am_GR, I, L) := am_rG2 am_m148 d_148_116 am_f9074 rfl (gs_53 N) (by decide) gr_53_25 rfl
theorem d_148_119 : am_code 148 119 = some (.aload_n 0, 1) := by decide +kernel
theorem s_148_119 (cl : am_C) (a1 a2 a3 a4 a5 : Option am_V) (x : Nat) (st : List am_V) (h : am_H) : am_go0 cl 148 119 [some (.inr (.inr (some x))), a1, a2, a3, a4, a5] st h = am_go0 cl 148 120 [some (.inr (.inr (some x))), a1, a2, a3, a4, a5] (.inr (.inr (some x)) :: st) h := am_r am_m148 d_148_119 rfl
theorem d_148_120 : am_code 148 120 = some (.getfield 189, 3) := by decide +kernel
theorem s_148_120 (cl : am_C) (ls : am_Ls) (st : List am_V) (N : Nat) (I : Nat → Int → Int) (L : Nat → Int → Int64) : am_go0 cl 148 120 ls (.inr (.inr (some 53)) :: st) (am_GS N, am_GR, I, L) = am_go0 cl 148 123 ls (.inl (I 53 21) :: st) (am_GS N, am_GR, I, L) := am_rG0 am_m148 d_148_120 am_f9189 rfl (gs_53 N) (by decide) rfl
theorem d_148_123 : am_code 148 123 = some (.iload 4, 2) := by decide +kernel
theorem s_148_123 (cl : am_C) (a0 a1 a2 a3 a5 : Option am_V) (x : Int) (st : List am_V) (h : am_H) : am_go0 cl 148 123 [a0, a1, a2, a3, some (.inl x), a5] st h = am_go0 cl 148 125 [a0, a1, a2, a3, some (.inl x), a5] (.inl x :: st) h := am_r am_m148 d_148_123 rfl
theorem d_148_125 : am_code 148 125 = some (.iastore, 1) := by decide +kernel
theorem s_148_125 (cl : am_C) (ls : am_Ls) (i : Int) (v : Int) (k : Nat) (st : List am_V) (N : Nat) (I : Nat → Int → Int) (L : Nat → Int → Int64) : am_go0 cl 148 125 ls (.inl v :: .inl i :: .inr (.inr (some k)) :: st) (am_GS N, am_GR, I, L) = if am_inb (am_GS N) k 0 i = true then am_go0 cl 148 126 ls st (am_GS N, am_GR, am_uI I k i v, L) else none := am_rS am_m148 d_148_125 rfl k ls st i v _ _ I L
theorem d_148_126 : am_code 148 126 = some (.aload_n 0, 1) := by decide +kernel
theorem s_148_126 (cl : am_C) (a1 a2 a3 a4 a5 : Option am_V) (x : Nat) (st : List am_V) (h : am_H) : am_go0 cl 148 126 [some (.inr (.inr (some x))), a1, a2, a3, a4, a5] st h = am_go0 cl 148 127 [some (.inr (.inr (some x))), a1, a2, a3, a4, a5] (.inr (.inr (some x)) :: st) h := am_r am_m148 d_148_126 rfl
theorem d_148_127 : am_code 148 127 = some (.getfield 77, 3) := by decide +kernel
theorem s_148_127 (cl : am_C) (ls : am_Ls) (st : List am_V) (N : Nat) (I : Nat → Int → Int) (L : Nat → Int → Int64) : am_go0 cl 148 127 ls (.inr (.inr (some 53)) :: st) (am_GS N, am_GR, I, L) = am_go0 cl 148 130 ls (.inr (.inr (some 75)) :: st) (am_GS N, am_GR, I, L) := am_rG2 am_m148 d_148_127 am_f9077 rfl (gs_53 N) (by decide) gr_53_26 rfl
theorem d_148_130 : am_code 148 130 = some (.aload_n 0, 1) := by decide +kernel
theorem s_148_130 (cl : am_C) (a1 a2 a3 a4 a5 : Option am_V) (x : Nat) (st : List am_V) (h : am_H) : am_go0 cl 148 130 [some (.inr (.inr (some x))), a1, a2, a3, a4, a5] st h = am_go0 cl 148 131 [some (.inr (.inr (some x))), a1, a2, a3, a4, a5] (.inr (.inr (some x)) :: st) h := am_r am_m148 d_148_130 rfl
theorem d_148_131 : am_code 148 131 = some (.getfield 189, 3) := by decide +kernel
theorem s_148_131 (cl : am_C) (ls : am_Ls) (st : List am_V) (N : Nat) (I : Nat → Int → Int) (L : Nat → Int → Int64) : am_go0 cl 148 131 ls (.inr (.inr (some 53)) :: st) (am_GS N, am_GR, I, L) = am_go0 cl 148 134 ls (.inl (I 53 21) :: st) (am_GS N, am_GR, I, L) := am_rG0 am_m148 d_148_131 am_f9189 rfl (gs_53 N) (by decide) rfl
theorem d_148_134 : am_code 148 134 = some (.iload 5, 2) := by decide +kernel
theorem s_148_134 (cl : am_C) (a0 a1 a2 a3 a4 : Option am_V) (x : Int) (st : List am_V) (h : am_H) : am_go0 cl 148 134 [a0, a1, a2, a3, a4, some (.inl x)] st h = am_go0 cl 148 136 [a0, a1, a2, a3, a4, some (.inl x)] (.inl x :: st) h := am_r am_m148 d_148_134 rfl
theorem d_148_136 : am_code 148 136 = some (.iastore, 1) := by decide +kernel
theorem s_148_136 (cl : am_C) (ls : am_Ls) (i : Int) (v : Int) (k : Nat) (st : List am_V) (N : Nat) (I : Nat → Int → Int) (L : Nat → Int → Int64) : am_go0 cl 148 136 ls (.inl v :: .inl i :: .inr (.inr (some k)) :: st) (am_GS N, am_GR, I, L) = if am_inb (am_GS N) k 0 i = true then am_go0 cl 148 137 ls st (am_GS N, am_GR, am_uI I k i v, L) else none := am_rS am_m148 d_148_136 rfl k ls st i v _ _ I L
theorem d_148_137 : am_code 148 137 = some (.aload_n 0, 1) := by decide +kernel
theorem s_148_137 (cl : am_C) (a1 a2 a3 a4 a5 : Option am_V) (x : Nat) (st : List am_V) (h : am_H) : am_go0 cl 148 137 [some (.inr (.inr (some x))), a1, a2, a3, a4, a5] st h = am_go0 cl 148 138 [some (.inr (.inr (some x))), a1, a2, a3, a4, a5] (.inr (.inr (some x)) :: st) h := am_r am_m148 d_148_137 rfl
theorem d_148_138 : am_code 148 138 = some (.dup, 1) := by decide +kernel
theorem s_148_138 (cl : am_C) (ls : am_Ls) (x : Nat) (st : List am_V) (h : am_H) : am_go0 cl 148 138 ls (.inr (.inr (some x)) :: st) h = am_go0 cl 148 139 ls (.inr (.inr (some x)) :: .inr (.inr (some x)) :: st) h := am_r am_m148 d_148_138 rfl
theorem d_148_139 : am_code 148 139 = some (.getfield 189, 3) := by decide +kernel
theorem s_148_139 (cl : am_C) (ls : am_Ls) (st : List am_V) (N : Nat) (I : Nat → Int → Int) (L : Nat → Int → Int64) : am_go0 cl 148 139 ls (.inr (.inr (some 53)) :: st) (am_GS N, am_GR, I, L) = am_go0 cl 148 142 ls (.inl (I 53 21) :: st) (am_GS N, am_GR, I, L) := am_rG0 am_m148 d_148_139 am_f9189 rfl (gs_53 N) (by decide) rfl
theorem d_148_142 : am_code 148 142 = some (.iconst 1, 1) := by decide +kernel
theorem s_148_142 (cl : am_C) (ls : am_Ls) (st : List am_V) (h : am_H) : am_go0 cl 148 142 ls st h = am_go0 cl 148 143 ls (.inl 1 :: st) h := am_rK am_m148 d_148_142 (by decide) rfl _ _ _
theorem d_148_143 : am_code 148 143 = some (.iadd, 1) := by decide +kernel
theorem s_148_143 (cl : am_C) (ls : am_Ls) (x y : Int) (st : List am_V) (h : am_H) : am_go0 cl 148 143 ls (.inl y :: .inl x :: st) h = am_go0 cl 148 144 ls (.inl (am_wr (x + y)) :: st) h := am_r am_m148 d_148_143 rfl
theorem d_148_144 : am_code 148 144 = some (.putfield 189, 3) := by decide +kernel
theorem s_148_144 (cl : am_C) (ls : am_Ls) (v : Int) (st : List am_V) (N : Nat) (I : Nat → Int → Int) (L : Nat → Int → Int64) : am_go0 cl 148 144 ls (.inl v :: .inr (.inr (some 53)) :: st) (am_GS N, am_GR, I, L) = am_go0 cl 148 147 ls st (am_GS N, am_GR, am_uI I 53 21 v, L) := am_rP0 am_m148 d_148_144 am_f9189 rfl (gs_53 N) (by decide) rfl
theorem d_148_147 : am_code 148 147 = some (.aload_n 0, 1) := by decide +kernel
theorem s_148_147 (cl : am_C) (a1 a2 a3 a4 a5 : Option am_V) (x : Nat) (st : List am_V) (h : am_H) : am_go0 cl 148 147 [some (.inr (.inr (some x))), a1, a2, a3, a4, a5] st h = am_go0 cl 148 148 [some (.inr (.inr (some x))), a1, a2, a3, a4, a5] (.inr (.inr (some x)) :: st) h := am_r am_m148 d_148_147 rfl
theorem d_148_148 : am_code 148 148 = some (.getfield 189, 3) := by decide +kernel
theorem s_148_148 (cl : am_C) (ls : am_Ls) (st : List am_V) (N : Nat) (I : Nat → Int → Int) (L : Nat → Int → Int64) : am_go0 cl 148 148 ls (.inr (.inr (some 53)) :: st) (am_GS N, am_GR, I, L) = am_go0 cl 148 151 ls (.inl (I 53 21) :: st) (am_GS N, am_GR, I, L) := am_rG0 am_m148 d_148_148 am_f9189 rfl (gs_53 N) (by decide) rfl
theorem d_148_151 : am_code 148 151 = some (.iconst 1, 1) := by decide +kernel
theorem s_148_151 (cl : am_C) (ls : am_Ls) (st : List am_V) (h : am_H) : am_go0 cl 148 151 ls st h = am_go0 cl 148 152 ls (.inl 1 :: st) h := am_rK am_m148 d_148_151 (by decide) rfl _ _ _
theorem d_148_152 : am_code 148 152 = some (.isub, 1) := by decide +kernel
theorem s_148_152 (cl : am_C) (ls : am_Ls) (x y : Int) (st : List am_V) (h : am_H) : am_go0 cl 148 152 ls (.inl y :: .inl x :: st) h = am_go0 cl 148 153 ls (.inl (am_wr (x - y)) :: st) h := am_r am_m148 d_148_152 rfl
theorem d_148_153 : am_code 148 153 = some (.ireturn, 1) := by decide +kernel
theorem s_148_153 (cl : am_C) (ls : am_Ls) (x : Int) (h : am_H) : am_go0 cl 148 153 ls [.inl x] h = some (some (.inl x), h) := am_rE am_m148 d_148_153 rfl
theorem e_148 (d : Nat) (t : Nat) (p0 : Int) (p1 : Int) (p2 : Int) (p3 : Int) (h : am_H) : am_call (d + 1) 148 [.inr (.inr (some t)), .inl p0, .inl p1, .inl p2, .inl p3] h = am_go0 (am_call d) 148 0 [some (.inr (.inr (some t))), some (.inl p0), some (.inl p1), some (.inl p2), some (.inl p3), none] [] h := am_callE am_m148 (Nat.le_of_ble_eq_true rfl) rfl
theorem d_149_0 : am_code 149 0 = some (.iload_n 1, 1) := by decide +kernel
theorem s_149_0 (cl : am_C) (a0 a2 a3 a4 : Option am_V) (x : Int) (st : List am_V) (h : am_H) : am_go0 cl 149 0 [a0, some (.inl x), a2, a3, a4] st h = am_go0 cl 149 1 [a0, some (.inl x), a2, a3, a4] (.inl x :: st) h := am_r am_m149 d_149_0 rfl
theorem d_149_1 : am_code 149 1 = some (.tableswitch 158 0 9 #[55, 57, 64, 64, 88, 158, 158, 158, 158, 127], 55) := by decide +kernel
theorem s_149_1 (cl : am_C) (ls : am_Ls) (x : Int) (st : List am_V) (h : am_H) : am_go0 cl 149 1 ls (.inl x :: st) h = if x = 0 then am_go0 cl 149 56 ls st h else if x = 1 then am_go0 cl 149 58 ls st h else if x = 2 then am_go0 cl 149 65 ls st h else if x = 3 then am_go0 cl 149 65 ls st h else if x = 4 then am_go0 cl 149 89 ls st h else if x = 5 then am_go0 cl 149 159 ls st h else if x = 6 then am_go0 cl 149 159 ls st h else if x = 7 then am_go0 cl 149 159 ls st h else if x = 8 then am_go0 cl 149 159 ls st h else if x = 9 then am_go0 cl 149 128 ls st h else am_go0 cl 149 159 ls st h := by
  by_cases q0 : x = 0
  · subst q0; exact (am_rTs (55) am_m149 d_149_1 (by decide +kernel) (by decide) _ _ _).trans (if_pos rfl).symm
  rw [if_neg q0]
  by_cases q1 : x = 1
  · subst q1; exact (am_rTs (57) am_m149 d_149_1 (by decide +kernel) (by decide) _ _ _).trans (if_pos rfl).symm
  rw [if_neg q1]
  by_cases q2 : x = 2
  · subst q2; exact (am_rTs (64) am_m149 d_149_1 (by decide +kernel) (by decide) _ _ _).trans (if_pos rfl).symm
  rw [if_neg q2]
  by_cases q3 : x = 3
  · subst q3; exact (am_rTs (64) am_m149 d_149_1 (by decide +kernel) (by decide) _ _ _).trans (if_pos rfl).symm
  rw [if_neg q3]
  by_cases q4 : x = 4
  · subst q4; exact (am_rTs (88) am_m149 d_149_1 (by decide +kernel) (by decide) _ _ _).trans (if_pos rfl).symm
  rw [if_neg q4]
  by_cases q5 : x = 5
  · subst q5; exact (am_rTs (158) am_m149 d_149_1 (by decide +kernel) (by decide) _ _ _).trans (if_pos rfl).symm
  rw [if_neg q5]
  by_cases q6 : x = 6
  · subst q6; exact (am_rTs (158) am_m149 d_149_1 (by decide +kernel) (by decide) _ _ _).trans (if_pos rfl).symm
  rw [if_neg q6]
  by_cases q7 : x = 7
  · subst q7; exact (am_rTs (158) am_m149 d_149_1 (by decide +kernel) (by decide) _ _ _).trans (if_pos rfl).symm
  rw [if_neg q7]
  by_cases q8 : x = 8
  · subst q8; exact (am_rTs (158) am_m149 d_149_1 (by decide +kernel) (by decide) _ _ _).trans (if_pos rfl).symm
  rw [if_neg q8]
  by_cases q9 : x = 9
  · subst q9; exact (am_rTs (127) am_m149 d_149_1 (by decide +kernel) (by decide) _ _ _).trans (if_pos rfl).symm
  rw [if_neg q9]
  exact am_rTs (158) am_m149 d_149_1 (am_sw_out (by omega)) (by decide) _ _ _
theorem d_149_56 : am_code 149 56 = some (.iconst 1, 1) := by decide +kernel
theorem s_149_56 (cl : am_C) (ls : am_Ls) (st : List am_V) (h : am_H) : am_go0 cl 149 56 ls st h = am_go0 cl 149 57 ls (.inl 1 :: st) h := am_rK am_m149 d_149_56 (by decide) rfl _ _ _
theorem d_149_57 : am_code 149 57 = some (.ireturn, 1) := by decide +kernel
theorem s_149_57 (cl : am_C) (ls : am_Ls) (x : Int) (h : am_H) : am_go0 cl 149 57 ls [.inl x] h = if x = 0 ∨ x = 1 then some (some (.inl x), h) else none := am_rRz am_m149 d_149_57 x ls h
theorem d_149_58 : am_code 149 58 = some (.iload_n 2, 1) := by decide +kernel
theorem s_149_58 (cl : am_C) (a0 a1 a3 a4 : Option am_V) (x : Int) (st : List am_V) (h : am_H) : am_go0 cl 149 58 [a0, a1, some (.inl x), a3, a4] st h = am_go0 cl 149 59 [a0, a1, some (.inl x), a3, a4] (.inl x :: st) h := am_r am_m149 d_149_58 rfl
theorem d_149_59 : am_code 149 59 = some (.iconst 0, 1) := by decide +kernel
theorem s_149_59 (cl : am_C) (ls : am_Ls) (st : List am_V) (h : am_H) : am_go0 cl 149 59 ls st h = am_go0 cl 149 60 ls (.inl 0 :: st) h := am_rK am_m149 d_149_59 (by decide) rfl _ _ _
theorem d_149_60 : am_code 149 60 = some (.iconst 3, 1) := by decide +kernel
theorem s_149_60 (cl : am_C) (ls : am_Ls) (st : List am_V) (h : am_H) : am_go0 cl 149 60 ls st h = am_go0 cl 149 61 ls (.inl 3 :: st) h := am_rK am_m149 d_149_60 (by decide) rfl _ _ _
theorem d_149_61 : am_code 149 61 = some (.invokestatic 151, 3) := by decide +kernel
theorem s_149_61 (cl : am_C) (ls : am_Ls) (x0 : Int) (x1 : Int) (x2 : Int) (h : am_H) : am_go0 cl 149 61 ls [.inl x2, .inl x1, .inl x0] h = am_bd (cl 135 [.inl x0, .inl x1, .inl x2] h) (fun v h2 => am_go0 cl 149 64 ls (v.toList ++ []) h2) := am_rVs am_m149 d_149_61 am_k9151 rfl (Nat.le_of_ble_eq_true rfl) rfl ls
theorem d_149_64 : am_code 149 64 = some (.ireturn, 1) := by decide +kernel
theorem s_149_64 (cl : am_C) (ls : am_Ls) (x : Int) (h : am_H) : am_go0 cl 149 64 ls [.inl x] h = if x = 0 ∨ x = 1 then some (some (.inl x), h) else none := am_rRz am_m149 d_149_64 x ls h
theorem d_149_65 : am_code 149 65 = some (.iload_n 2, 1) := by decide +kernel
theorem s_149_65 (cl : am_C) (a0 a1 a3 a4 : Option am_V) (x : Int) (st : List am_V) (h : am_H) : am_go0 cl 149 65 [a0, a1, some (.inl x), a3, a4] st h = am_go0 cl 149 66 [a0, a1, some (.inl x), a3, a4] (.inl x :: st) h := am_r am_m149 d_149_65 rfl
theorem d_149_66 : am_code 149 66 = some (.iconst 0, 1) := by decide +kernel
theorem s_149_66 (cl : am_C) (ls : am_Ls) (st : List am_V) (h : am_H) : am_go0 cl 149 66 ls st h = am_go0 cl 149 67 ls (.inl 0 :: st) h := am_rK am_m149 d_149_66 (by decide) rfl _ _ _
theorem d_149_67 : am_code 149 67 = some (.iconst 3, 1) := by decide +kernel
theorem s_149_67 (cl : am_C) (ls : am_Ls) (st : List am_V) (h : am_H) : am_go0 cl 149 67 ls st h = am_go0 cl 149 68 ls (.inl 3 :: st) h := am_rK am_m149 d_149_67 (by decide) rfl _ _ _
theorem d_149_68 : am_code 149 68 = some (.invokestatic 151, 3) := by decide +kernel
theorem s_149_68 (cl : am_C) (ls : am_Ls) (x0 : Int) (x1 : Int) (x2 : Int) (h : am_H) : am_go0 cl 149 68 ls [.inl x2, .inl x1, .inl x0] h = am_bd (cl 135 [.inl x0, .inl x1, .inl x2] h) (fun v h2 => am_go0 cl 149 71 ls (v.toList ++ []) h2) := am_rVs am_m149 d_149_68 am_k9151 rfl (Nat.le_of_ble_eq_true rfl) rfl ls
theorem d_149_71 : am_code 149 71 = some (.ifCond .eq 16, 3) := by decide +kernel
theorem s_149_71 (cl : am_C) (ls : am_Ls) (x : Int) (st : List am_V) (h : am_H) : am_go0 cl 149 71 ls (.inl x :: st) h = if x = 0 then am_go0 cl 149 87 ls st h else am_go0 cl 149 74 ls st h := (am_rJ1 am_m149 d_149_71 (by decide) rfl x ls st h).trans (am_ifT (am_cmp_eq x 0) _ _)
theorem d_149_74 : am_code 149 74 = some (.iload_n 3, 1) := by decide +kernel
theorem s_149_74 (cl : am_C) (a0 a1 a2 a4 : Option am_V) (x : Int) (st : List am_V) (h : am_H) : am_go0 cl 149 74 [a0, a1, a2, some (.inl x), a4] st h = am_go0 cl 149 75 [a0, a1, a2, some (.inl x), a4] (.inl x :: st) h := am_r am_m149 d_149_74 rfl
theorem d_149_75 : am_code 149 75 = some (.iconst 0, 1) := by decide +kernel
theorem s_149_75 (cl : am_C) (ls : am_Ls) (st : List am_V) (h : am_H) : am_go0 cl 149 75 ls st h = am_go0 cl 149 76 ls (.inl 0 :: st) h := am_rK am_m149 d_149_75 (by decide) rfl _ _ _
theorem d_149_76 : am_code 149 76 = some (.iconst 3, 1) := by decide +kernel
theorem s_149_76 (cl : am_C) (ls : am_Ls) (st : List am_V) (h : am_H) : am_go0 cl 149 76 ls st h = am_go0 cl 149 77 ls (.inl 3 :: st) h := am_rK am_m149 d_149_76 (by decide) rfl _ _ _
theorem d_149_77 : am_code 149 77 = some (.invokestatic 151, 3) := by decide +kernel
theorem s_149_77 (cl : am_C) (ls : am_Ls) (x0 : Int) (x1 : Int) (x2 : Int) (h : am_H) : am_go0 cl 149 77 ls [.inl x2, .inl x1, .inl x0] h = am_bd (cl 135 [.inl x0, .inl x1, .inl x2] h) (fun v h2 => am_go0 cl 149 80 ls (v.toList ++ []) h2) := am_rVs am_m149 d_149_77 am_k9151 rfl (Nat.le_of_ble_eq_true rfl) rfl ls
theorem d_149_80 : am_code 149 80 = some (.ifCond .eq 7, 3) := by decide +kernel
theorem s_149_80 (cl : am_C) (ls : am_Ls) (x : Int) (st : List am_V) (h : am_H) : am_go0 cl 149 80 ls (.inl x :: st) h = if x = 0 then am_go0 cl 149 87 ls st h else am_go0 cl 149 83 ls st h := (am_rJ1 am_m149 d_149_80 (by decide) rfl x ls st h).trans (am_ifT (am_cmp_eq x 0) _ _)
theorem d_149_83 : am_code 149 83 = some (.iconst 1, 1) := by decide +kernel
theorem s_149_83 (cl : am_C) (ls : am_Ls) (st : List am_V) (h : am_H) : am_go0 cl 149 83 ls st h = am_go0 cl 149 84 ls (.inl 1 :: st) h := am_rK am_m149 d_149_83 (by decide) rfl _ _ _
theorem d_149_84 : am_code 149 84 = some (.goto 4, 3) := by decide +kernel
theorem s_149_84 (cl : am_C) (ls : am_Ls) (st : List am_V) (h : am_H) : am_go0 cl 149 84 ls st h = am_go0 cl 149 88 ls st h := am_rGo am_m149 d_149_84 (by decide) _ _ _
theorem d_149_87 : am_code 149 87 = some (.iconst 0, 1) := by decide +kernel
theorem s_149_87 (cl : am_C) (ls : am_Ls) (st : List am_V) (h : am_H) : am_go0 cl 149 87 ls st h = am_go0 cl 149 88 ls (.inl 0 :: st) h := am_rK am_m149 d_149_87 (by decide) rfl _ _ _
theorem d_149_88 : am_code 149 88 = some (.ireturn, 1) := by decide +kernel
theorem s_149_88 (cl : am_C) (ls : am_Ls) (x : Int) (h : am_H) : am_go0 cl 149 88 ls [.inl x] h = if x = 0 ∨ x = 1 then some (some (.inl x), h) else none := am_rRz am_m149 d_149_88 x ls h
theorem d_149_89 : am_code 149 89 = some (.aload_n 0, 1) := by decide +kernel
theorem s_149_89 (cl : am_C) (a1 a2 a3 a4 : Option am_V) (x : Nat) (st : List am_V) (h : am_H) : am_go0 cl 149 89 [some (.inr (.inr (some x))), a1, a2, a3, a4] st h = am_go0 cl 149 90 [some (.inr (.inr (some x))), a1, a2, a3, a4] (.inr (.inr (some x)) :: st) h := am_r am_m149 d_149_89 rfl
theorem d_149_90 : am_code 149 90 = some (.iload_n 2, 1) := by decide +kernel
theorem s_149_90 (cl : am_C) (a0 a1 a3 a4 : Option am_V) (x : Int) (st : List am_V) (h : am_H) : am_go0 cl 149 90 [a0, a1, some (.inl x), a3, a4] st h = am_go0 cl 149 91 [a0, a1, some (.inl x), a3, a4] (.inl x :: st) h := am_r am_m149 d_149_90 rfl
theorem d_149_91 : am_code 149 91 = some (.invokevirtual 179, 3) := by decide +kernel
theorem s_149_91 (cl : am_C) (ls : am_Ls) (x0 : Int) (N : Nat) (I : Nat → Int → Int) (L : Nat → Int → Int64) : am_go0 cl 149 91 ls [.inl x0, .inr (.inr (some 53))] (am_GS N, am_GR, I, L) = am_bd (cl 143 [.inr (.inr (some 53)), .inl x0] (am_GS N, am_GR, I, L)) (fun v h2 => am_go0 cl 149 94 ls (v.toList ++ []) h2) := am_rV am_m149 d_149_91 am_k9179 rfl am_m143 (gs_53 N) (by decide) (Nat.le_of_ble_eq_true rfl) rfl ls
theorem d_149_94 : am_code 149 94 = some (.ifCond .eq 32, 3) := by decide +kernel
theorem s_149_94 (cl : am_C) (ls : am_Ls) (x : Int) (st : List am_V) (h : am_H) : am_go0 cl 149 94 ls (.inl x :: st) h = if x = 0 then am_go0 cl 149 126 ls st h else am_go0 cl 149 97 ls st h := (am_rJ1 am_m149 d_149_94 (by decide) rfl x ls st h).trans (am_ifT (am_cmp_eq x 0) _ _)
theorem d_149_97 : am_code 149 97 = some (.aload_n 0, 1) := by decide +kernel
theorem s_149_97 (cl : am_C) (a1 a2 a3 a4 : Option am_V) (x : Nat) (st : List am_V) (h : am_H) : am_go0 cl 149 97 [some (.inr (.inr (some x))), a1, a2, a3, a4] st h = am_go0 cl 149 98 [some (.inr (.inr (some x))), a1, a2, a3, a4] (.inr (.inr (some x)) :: st) h := am_r am_m149 d_149_97 rfl
theorem d_149_98 : am_code 149 98 = some (.iload_n 3, 1) := by decide +kernel
theorem s_149_98 (cl : am_C) (a0 a1 a2 a4 : Option am_V) (x : Int) (st : List am_V) (h : am_H) : am_go0 cl 149 98 [a0, a1, a2, some (.inl x), a4] st h = am_go0 cl 149 99 [a0, a1, a2, some (.inl x), a4] (.inl x :: st) h := am_r am_m149 d_149_98 rfl
theorem d_149_99 : am_code 149 99 = some (.invokevirtual 158, 3) := by decide +kernel
theorem s_149_99 (cl : am_C) (ls : am_Ls) (x0 : Int) (N : Nat) (I : Nat → Int → Int) (L : Nat → Int → Int64) : am_go0 cl 149 99 ls [.inl x0, .inr (.inr (some 53))] (am_GS N, am_GR, I, L) = am_bd (cl 137 [.inr (.inr (some 53)), .inl x0] (am_GS N, am_GR, I, L)) (fun v h2 => am_go0 cl 149 102 ls (v.toList ++ []) h2) := am_rV am_m149 d_149_99 am_k9158 rfl am_m137 (gs_53 N) (by decide) (Nat.le_of_ble_eq_true rfl) rfl ls
theorem d_149_102 : am_code 149 102 = some (.ifCond .eq 24, 3) := by decide +kernel
theorem s_149_102 (cl : am_C) (ls : am_Ls) (x : Int) (st : List am_V) (h : am_H) : am_go0 cl 149 102 ls (.inl x :: st) h = if x = 0 then am_go0 cl 149 126 ls st h else am_go0 cl 149 105 ls st h := (am_rJ1 am_m149 d_149_102 (by decide) rfl x ls st h).trans (am_ifT (am_cmp_eq x 0) _ _)
theorem d_149_105 : am_code 149 105 = some (.iload 4, 2) := by decide +kernel
theorem s_149_105 (cl : am_C) (a0 a1 a2 a3 : Option am_V) (x : Int) (st : List am_V) (h : am_H) : am_go0 cl 149 105 [a0, a1, a2, a3, some (.inl x)] st h = am_go0 cl 149 107 [a0, a1, a2, a3, some (.inl x)] (.inl x :: st) h := am_r am_m149 d_149_105 rfl
theorem d_149_107 : am_code 149 107 = some (.iconst 0, 1) := by decide +kernel
theorem s_149_107 (cl : am_C) (ls : am_Ls) (st : List am_V) (h : am_H) : am_go0 cl 149 107 ls st h = am_go0 cl 149 108 ls (.inl 0 :: st) h := am_rK am_m149 d_149_107 (by decide) rfl _ _ _
theorem d_149_108 : am_code 149 108 = some (.aload_n 0, 1) := by decide +kernel
theorem s_149_108 (cl : am_C) (a1 a2 a3 a4 : Option am_V) (x : Nat) (st : List am_V) (h : am_H) : am_go0 cl 149 108 [some (.inr (.inr (some x))), a1, a2, a3, a4] st h = am_go0 cl 149 109 [some (.inr (.inr (some x))), a1, a2, a3, a4] (.inr (.inr (some x)) :: st) h := am_r am_m149 d_149_108 rfl
theorem d_149_109 : am_code 149 109 = some (.getfield 35, 3) := by decide +kernel
theorem s_149_109 (cl : am_C) (ls : am_Ls) (st : List am_V) (N : Nat) (I : Nat → Int → Int) (L : Nat → Int → Int64) : am_go0 cl 149 109 ls (.inr (.inr (some 53)) :: st) (am_GS N, am_GR, I, L) = am_go0 cl 149 112 ls (.inr (.inr (some 61)) :: st) (am_GS N, am_GR, I, L) := am_rG2 am_m149 d_149_109 am_f9035 rfl (gs_53 N) (by decide) gr_53_10 rfl
theorem d_149_112 : am_code 149 112 = some (.iload_n 2, 1) := by decide +kernel
theorem s_149_112 (cl : am_C) (a0 a1 a3 a4 : Option am_V) (x : Int) (st : List am_V) (h : am_H) : am_go0 cl 149 112 [a0, a1, some (.inl x), a3, a4] st h = am_go0 cl 149 113 [a0, a1, some (.inl x), a3, a4] (.inl x :: st) h := am_r am_m149 d_149_112 rfl
theorem d_149_113 : am_code 149 113 = some (.iaload, 1) := by decide +kernel
theorem s_149_113 (cl : am_C) (ls : am_Ls) (i : Int) (k : Nat) (st : List am_V) (N : Nat) (I : Nat → Int → Int) (L : Nat → Int → Int64) : am_go0 cl 149 113 ls (.inl i :: .inr (.inr (some k)) :: st) (am_GS N, am_GR, I, L) = if am_inb (am_GS N) k 0 i = true then am_go0 cl 149 114 ls (.inl (I k i) :: st) (am_GS N, am_GR, I, L) else none := am_rA am_m149 d_149_113 (by decide) rfl k ls st i _ _ I L
theorem d_149_114 : am_code 149 114 = some (.iconst 1, 1) := by decide +kernel
theorem s_149_114 (cl : am_C) (ls : am_Ls) (st : List am_V) (h : am_H) : am_go0 cl 149 114 ls st h = am_go0 cl 149 115 ls (.inl 1 :: st) h := am_rK am_m149 d_149_114 (by decide) rfl _ _ _
theorem d_149_115 : am_code 149 115 = some (.isub, 1) := by decide +kernel
theorem s_149_115 (cl : am_C) (ls : am_Ls) (x y : Int) (st : List am_V) (h : am_H) : am_go0 cl 149 115 ls (.inl y :: .inl x :: st) h = am_go0 cl 149 116 ls (.inl (am_wr (x - y)) :: st) h := am_r am_m149 d_149_115 rfl
theorem d_149_116 : am_code 149 116 = some (.invokestatic 151, 3) := by decide +kernel
theorem s_149_116 (cl : am_C) (ls : am_Ls) (x0 : Int) (x1 : Int) (x2 : Int) (h : am_H) : am_go0 cl 149 116 ls [.inl x2, .inl x1, .inl x0] h = am_bd (cl 135 [.inl x0, .inl x1, .inl x2] h) (fun v h2 => am_go0 cl 149 119 ls (v.toList ++ []) h2) := am_rVs am_m149 d_149_116 am_k9151 rfl (Nat.le_of_ble_eq_true rfl) rfl ls
theorem d_149_119 : am_code 149 119 = some (.ifCond .eq 7, 3) := by decide +kernel
theorem s_149_119 (cl : am_C) (ls : am_Ls) (x : Int) (st : List am_V) (h : am_H) : am_go0 cl 149 119 ls (.inl x :: st) h = if x = 0 then am_go0 cl 149 126 ls st h else am_go0 cl 149 122 ls st h := (am_rJ1 am_m149 d_149_119 (by decide) rfl x ls st h).trans (am_ifT (am_cmp_eq x 0) _ _)
theorem d_149_122 : am_code 149 122 = some (.iconst 1, 1) := by decide +kernel
theorem s_149_122 (cl : am_C) (ls : am_Ls) (st : List am_V) (h : am_H) : am_go0 cl 149 122 ls st h = am_go0 cl 149 123 ls (.inl 1 :: st) h := am_rK am_m149 d_149_122 (by decide) rfl _ _ _
theorem d_149_123 : am_code 149 123 = some (.goto 4, 3) := by decide +kernel
theorem s_149_123 (cl : am_C) (ls : am_Ls) (st : List am_V) (h : am_H) : am_go0 cl 149 123 ls st h = am_go0 cl 149 127 ls st h := am_rGo am_m149 d_149_123 (by decide) _ _ _
theorem d_149_126 : am_code 149 126 = some (.iconst 0, 1) := by decide +kernel
theorem s_149_126 (cl : am_C) (ls : am_Ls) (st : List am_V) (h : am_H) : am_go0 cl 149 126 ls st h = am_go0 cl 149 127 ls (.inl 0 :: st) h := am_rK am_m149 d_149_126 (by decide) rfl _ _ _
theorem d_149_127 : am_code 149 127 = some (.ireturn, 1) := by decide +kernel
theorem s_149_127 (cl : am_C) (ls : am_Ls) (x : Int) (h : am_H) : am_go0 cl 149 127 ls [.inl x] h = if x = 0 ∨ x = 1 then some (some (.inl x), h) else none := am_rRz am_m149 d_149_127 x ls h
theorem d_149_128 : am_code 149 128 = some (.aload_n 0, 1) := by decide +kernel
theorem s_149_128 (cl : am_C) (a1 a2 a3 a4 : Option am_V) (x : Nat) (st : List am_V) (h : am_H) : am_go0 cl 149 128 [some (.inr (.inr (some x))), a1, a2, a3, a4] st h = am_go0 cl 149 129 [some (.inr (.inr (some x))), a1, a2, a3, a4] (.inr (.inr (some x)) :: st) h := am_r am_m149 d_149_128 rfl
theorem d_149_129 : am_code 149 129 = some (.iload_n 2, 1) := by decide +kernel
theorem s_149_129 (cl : am_C) (a0 a1 a3 a4 : Option am_V) (x : Int) (st : List am_V) (h : am_H) : am_go0 cl 149 129 [a0, a1, some (.inl x), a3, a4] st h = am_go0 cl 149 130 [a0, a1, some (.inl x), a3, a4] (.inl x :: st) h := am_r am_m149 d_149_129 rfl
theorem d_149_130 : am_code 149 130 = some (.invokevirtual 192, 3) := by decide +kernel
theorem s_149_130 (cl : am_C) (ls : am_Ls) (x0 : Int) (N : Nat) (I : Nat → Int → Int) (L : Nat → Int → Int64) : am_go0 cl 149 130 ls [.inl x0, .inr (.inr (some 53))] (am_GS N, am_GR, I, L) = am_bd (cl 150 [.inr (.inr (some 53)), .inl x0] (am_GS N, am_GR, I, L)) (fun v h2 => am_go0 cl 149 133 ls (v.toList ++ []) h2) := am_rV am_m149 d_149_130 am_k9192 rfl am_m150 (gs_53 N) (by decide) (Nat.le_of_ble_eq_true rfl) rfl ls
theorem d_149_133 : am_code 149 133 = some (.ifCond .eq 24, 3) := by decide +kernel
theorem s_149_133 (cl : am_C) (ls : am_Ls) (x : Int) (st : List am_V) (h : am_H) : am_go0 cl 149 133 ls (.inl x :: st) h = if x = 0 then am_go0 cl 149 157 ls st h else am_go0 cl 149 136 ls st h := (am_rJ1 am_m149 d_149_133 (by decide) rfl x ls st h).trans (am_ifT (am_cmp_eq x 0) _ _)
theorem d_149_136 : am_code 149 136 = some (.aload_n 0, 1) := by decide +kernel
theorem s_149_136 (cl : am_C) (a1 a2 a3 a4 : Option am_V) (x : Nat) (st : List am_V) (h : am_H) : am_go0 cl 149 136 [some (.inr (.inr (some x))), a1, a2, a3, a4] st h = am_go0 cl 149 137 [some (.inr (.inr (some x))), a1, a2, a3, a4] (.inr (.inr (some x)) :: st) h := am_r am_m149 d_149_136 rfl
theorem d_149_137 : am_code 149 137 = some (.iload_n 3, 1) := by decide +kernel
theorem s_149_137 (cl : am_C) (a0 a1 a2 a4 : Option am_V) (x : Int) (st : List am_V) (h : am_H) : am_go0 cl 149 137 [a0, a1, a2, some (.inl x), a4] st h = am_go0 cl 149 138 [a0, a1, a2, some (.inl x), a4] (.inl x :: st) h := am_r am_m149 d_149_137 rfl
theorem d_149_138 : am_code 149 138 = some (.invokevirtual 192, 3) := by decide +kernel
theorem s_149_138 (cl : am_C) (ls : am_Ls) (x0 : Int) (N : Nat) (I : Nat → Int → Int) (L : Nat → Int → Int64) : am_go0 cl 149 138 ls [.inl x0, .inr (.inr (some 53))] (am_GS N, am_GR, I, L) = am_bd (cl 150 [.inr (.inr (some 53)), .inl x0] (am_GS N, am_GR, I, L)) (fun v h2 => am_go0 cl 149 141 ls (v.toList ++ []) h2) := am_rV am_m149 d_149_138 am_k9192 rfl am_m150 (gs_53 N) (by decide) (Nat.le_of_ble_eq_true rfl) rfl ls
theorem d_149_141 : am_code 149 141 = some (.ifCond .eq 16, 3) := by decide +kernel
theorem s_149_141 (cl : am_C) (ls : am_Ls) (x : Int) (st : List am_V) (h : am_H) : am_go0 cl 149 141 ls (.inl x :: st) h = if x = 0 then am_go0 cl 149 157 ls st h else am_go0 cl 149 144 ls st h := (am_rJ1 am_m149 d_149_141 (by decide) rfl x ls st h).trans (am_ifT (am_cmp_eq x 0) _ _)
theorem d_149_144 : am_code 149 144 = some (.aload_n 0, 1) := by decide +kernel
theorem s_149_144 (cl : am_C) (a1 a2 a3 a4 : Option am_V) (x : Nat) (st : List am_V) (h : am_H) : am_go0 cl 149 144 [some (.inr (.inr (some x))), a1, a2, a3, a4] st h = am_go0 cl 149 145 [some (.inr (.inr (some x))), a1, a2, a3, a4] (.inr (.inr (some x)) :: st) h := am_r am_m149 d_149_144 rfl
theorem d_149_145 : am_code 149 145 = some (.iload 4, 2) := by decide +kernel
theorem s_149_145 (cl : am_C) (a0 a1 a2 a3 : Option am_V) (x : Int) (st : List am_V) (h : am_H) : am_go0 cl 149 145 [a0, a1, a2, a3, some (.inl x)] st h = am_go0 cl 149 147 [a0, a1, a2, a3, some (.inl x)] (.inl x :: st) h := am_r am_m149 d_149_145 rfl
theorem d_149_147 : am_code 149 147 = some (.invokevirtual 192, 3) := by decide +kernel
theorem s_149_147 (cl : am_C) (ls : am_Ls) (x0 : Int) (N : Nat) (I : Nat → Int → Int) (L : Nat → Int → Int64) : am_go0 cl 149 147 ls [.inl x0, .inr (.inr (some 53))] (am_GS N, am_GR, I, L) = am_bd (cl 150 [.inr (.inr (some 53)), .inl x0] (am_GS N, am_GR, I, L)) (fun v h2 => am_go0 cl 149 150 ls (v.toList ++ []) h2) := am_rV am_m149 d_149_147 am_k9192 rfl am_m150 (gs_53 N) (by decide) (Nat.le_of_ble_eq_true rfl) rfl ls
theorem d_149_150 : am_code 149 150 = some (.ifCond .eq 7, 3) := by decide +kernel
theorem s_149_150 (cl : am_C) (ls : am_Ls) (x : Int) (st : List am_V) (h : am_H) : am_go0 cl 149 150 ls (.inl x :: st) h = if x = 0 then am_go0 cl 149 157 ls st h else am_go0 cl 149 153 ls st h := (am_rJ1 am_m149 d_149_150 (by decide) rfl x ls st h).trans (am_ifT (am_cmp_eq x 0) _ _)
theorem d_149_153 : am_code 149 153 = some (.iconst 1, 1) := by decide +kernel
theorem s_149_153 (cl : am_C) (ls : am_Ls) (st : List am_V) (h : am_H) : am_go0 cl 149 153 ls st h = am_go0 cl 149 154 ls (.inl 1 :: st) h := am_rK am_m149 d_149_153 (by decide) rfl _ _ _
theorem d_149_154 : am_code 149 154 = some (.goto 4, 3) := by decide +kernel
theorem s_149_154 (cl : am_C) (ls : am_Ls) (st : List am_V) (h : am_H) : am_go0 cl 149 154 ls st h = am_go0 cl 149 158 ls st h := am_rGo am_m149 d_149_154 (by decide) _ _ _
theorem d_149_157 : am_code 149 157 = some (.iconst 0, 1) := by decide +kernel
theorem s_149_157 (cl : am_C) (ls : am_Ls) (st : List am_V) (h : am_H) : am_go0 cl 149 157 ls st h = am_go0 cl 149 158 ls (.inl 0 :: st) h := am_rK am_m149 d_149_157 (by decide) rfl _ _ _
theorem d_149_158 : am_code 149 158 = some (.ireturn, 1) := by decide +kernel
theorem s_149_158 (cl : am_C) (ls : am_Ls) (x : Int) (h : am_H) : am_go0 cl 149 158 ls [.inl x] h = if x = 0 ∨ x = 1 then some (some (.inl x), h) else none := am_rRz am_m149 d_149_158 x ls h
theorem d_149_159 : am_code 149 159 = some (.iload_n 1, 1) := by decide +kernel
theorem s_149_159 (cl : am_C) (a0 a2 a3 a4 : Option am_V) (x : Int) (st : List am_V) (h : am_H) : am_go0 cl 149 159 [a0, some (.inl x), a2, a3, a4] st h = am_go0 cl 149 160 [a0, some (.inl x), a2, a3, a4] (.inl x :: st) h := am_r am_m149 d_149_159 rfl
theorem d_149_160 : am_code 149 160 = some (.iconst 5, 1) := by decide +kernel
theorem s_149_160 (cl : am_C) (ls : am_Ls) (st : List am_V) (h : am_H) : am_go0 cl 149 160 ls st h = am_go0 cl 149 161 ls (.inl 5 :: st) h := am_rK am_m149 d_149_160 (by decide) rfl _ _ _
theorem d_149_161 : am_code 149 161 = some (.bipush 8, 2) := by decide +kernel
theorem s_149_161 (cl : am_C) (ls : am_Ls) (st : List am_V) (h : am_H) : am_go0 cl 149 161 ls st h = am_go0 cl 149 163 ls (.inl 8 :: st) h := am_rB am_m149 d_149_161 (by decide) rfl _ _ _
theorem d_149_163 : am_code 149 163 = some (.invokestatic 151, 3) := by decide +kernel
theorem s_149_163 (cl : am_C) (ls : am_Ls) (x0 : Int) (x1 : Int) (x2 : Int) (h : am_H) : am_go0 cl 149 163 ls [.inl x2, .inl x1, .inl x0] h = am_bd (cl 135 [.inl x0, .inl x1, .inl x2] h) (fun v h2 => am_go0 cl 149 166 ls (v.toList ++ []) h2) := am_rVs am_m149 d_149_163 am_k9151 rfl (Nat.le_of_ble_eq_true rfl) rfl ls
theorem d_149_166 : am_code 149 166 = some (.ifCond .eq 23, 3) := by decide +kernel
theorem s_149_166 (cl : am_C) (ls : am_Ls) (x : Int) (st : List am_V) (h : am_H) : am_go0 cl 149 166 ls (.inl x :: st) h = if x = 0 then am_go0 cl 149 189 ls st h else am_go0 cl 149 169 ls st h := (am_rJ1 am_m149 d_149_166 (by decide) rfl x ls st h).trans (am_ifT (am_cmp_eq x 0) _ _)
theorem d_149_169 : am_code 149 169 = some (.aload_n 0, 1) := by decide +kernel
theorem s_149_169 (cl : am_C) (a1 a2 a3 a4 : Option am_V) (x : Nat) (st : List am_V) (h : am_H) : am_go0 cl 149 169 [some (.inr (.inr (some x))), a1, a2, a3, a4] st h = am_go0 cl 149 170 [some (.inr (.inr (some x))), a1, a2, a3, a4] (.inr (.inr (some x)) :: st) h := am_r am_m149 d_149_169 rfl
theorem d_149_170 : am_code 149 170 = some (.iload_n 2, 1) := by decide +kernel
theorem s_149_170 (cl : am_C) (a0 a1 a3 a4 : Option am_V) (x : Int) (st : List am_V) (h : am_H) : am_go0 cl 149 170 [a0, a1, some (.inl x), a3, a4] st h = am_go0 cl 149 171 [a0, a1, some (.inl x), a3, a4] (.inl x :: st) h := am_r am_m149 d_149_170 rfl
theorem d_149_171 : am_code 149 171 = some (.invokevirtual 192, 3) := by decide +kernel
theorem s_149_171 (cl : am_C) (ls : am_Ls) (x0 : Int) (N : Nat) (I : Nat → Int → Int) (L : Nat → Int → Int64) : am_go0 cl 149 171 ls [.inl x0, .inr (.inr (some 53))] (am_GS N, am_GR, I, L) = am_bd (cl 150 [.inr (.inr (some 53)), .inl x0] (am_GS N, am_GR, I, L)) (fun v h2 => am_go0 cl 149 174 ls (v.toList ++ []) h2) := am_rV am_m149 d_149_171 am_k9192 rfl am_m150 (gs_53 N) (by decide) (Nat.le_of_ble_eq_true rfl) rfl ls
theorem d_149_174 : am_code 149 174 = some (.ifCond .eq 15, 3) := by decide +kernel
theorem s_149_174 (cl : am_C) (ls : am_Ls) (x : Int) (st : List am_V) (h : am_H) : am_go0 cl 149 174 ls (.inl x :: st) h = if x = 0 then am_go0 cl 149 189 ls st h else am_go0 cl 149 177 ls st h := (am_rJ1 am_m149 d_149_174 (by decide) rfl x ls st h).trans (am_ifT (am_cmp_eq x 0) _ _)
theorem d_149_177 : am_code 149 177 = some (.aload_n 0, 1) := by decide +kernel
theorem s_149_177 (cl : am_C) (a1 a2 a3 a4 : Option am_V) (x : Nat) (st : List am_V) (h : am_H) : am_go0 cl 149 177 [some (.inr (.inr (some x))), a1, a2, a3, a4] st h = am_go0 cl 149 178 [some (.inr (.inr (some x))), a1, a2, a3, a4] (.inr (.inr (some x)) :: st) h := am_r am_m149 d_149_177 rfl
theorem d_149_178 : am_code 149 178 = some (.iload_n 3, 1) := by decide +kernel
theorem s_149_178 (cl : am_C) (a0 a1 a2 a4 : Option am_V) (x : Int) (st : List am_V) (h : am_H) : am_go0 cl 149 178 [a0, a1, a2, some (.inl x), a4] st h = am_go0 cl 149 179 [a0, a1, a2, some (.inl x), a4] (.inl x :: st) h := am_r am_m149 d_149_178 rfl
theorem d_149_179 : am_code 149 179 = some (.invokevirtual 192, 3) := by decide +kernel
theorem s_149_179 (cl : am_C) (ls : am_Ls) (x0 : Int) (N : Nat) (I : Nat → Int → Int) (L : Nat → Int → Int64) : am_go0 cl 149 179 ls [.inl x0, .inr (.inr (some 53))] (am_GS N, am_GR, I, L) = am_bd (cl 150 [.inr (.inr (some 53)), .inl x0] (am_GS N, am_GR, I, L)) (fun v h2 => am_go0 cl 149 182 ls (v.toList ++ []) h2) := am_rV am_m149 d_149_179 am_k9192 rfl am_m150 (gs_53 N) (by decide) (Nat.le_of_ble_eq_true rfl) rfl ls
theorem d_149_182 : am_code 149 182 = some (.ifCond .eq 7, 3) := by decide +kernel
theorem s_149_182 (cl : am_C) (ls : am_Ls) (x : Int) (st : List am_V) (h : am_H) : am_go0 cl 149 182 ls (.inl x :: st) h = if x = 0 then am_go0 cl 149 189 ls st h else am_go0 cl 149 185 ls st h := (am_rJ1 am_m149 d_149_182 (by decide) rfl x ls st h).trans (am_ifT (am_cmp_eq x 0) _ _)
theorem d_149_185 : am_code 149 185 = some (.iconst 1, 1) := by decide +kernel
theorem s_149_185 (cl : am_C) (ls : am_Ls) (st : List am_V) (h : am_H) : am_go0 cl 149 185 ls st h = am_go0 cl 149 186 ls (.inl 1 :: st) h := am_rK am_m149 d_149_185 (by decide) rfl _ _ _
theorem d_149_186 : am_code 149 186 = some (.goto 4, 3) := by decide +kernel
theorem s_149_186 (cl : am_C) (ls : am_Ls) (st : List am_V) (h : am_H) : am_go0 cl 149 186 ls st h = am_go0 cl 149 190 ls st h := am_rGo am_m149 d_149_186 (by decide) _ _ _
theorem d_149_189 : am_code 149 189 = some (.iconst 0, 1) := by decide +kernel
theorem s_149_189 (cl : am_C) (ls : am_Ls) (st : List am_V) (h : am_H) : am_go0 cl 149 189 ls st h = am_go0 cl 149 190 ls (.inl 0 :: st) h := am_rK am_m149 d_149_189 (by decide) rfl _ _ _
theorem d_149_190 : am_code 149 190 = some (.ireturn, 1) := by decide +kernel
theorem s_149_190 (cl : am_C) (ls : am_Ls) (x : Int) (h : am_H) : am_go0 cl 149 190 ls [.inl x] h = if x = 0 ∨ x = 1 then some (some (.inl x), h) else none := am_rRz am_m149 d_149_190 x ls h
theorem e_149 (d : Nat) (t : Nat) (p0 : Int) (p1 : Int) (p2 : Int) (p3 : Int) (h : am_H) : am_call (d + 1) 149 [.inr (.inr (some t)), .inl p0, .inl p1, .inl p2, .inl p3] h = am_go0 (am_call d) 149 0 [some (.inr (.inr (some t))), some (.inl p0), some (.inl p1), some (.inl p2), some (.inl p3)] [] h := am_callE am_m149 (Nat.le_of_ble_eq_true rfl) rfl
theorem d_150_0 : am_code 150 0 = some (.iload_n 1, 1) := by decide +kernel
theorem s_150_0 (cl : am_C) (a0 : Option am_V) (x : Int) (st : List am_V) (h : am_H) : am_go0 cl 150 0 [a0, some (.inl x)] st h = am_go0 cl 150 1 [a0, some (.inl x)] (.inl x :: st) h := am_r am_m150 d_150_0 rfl
theorem d_150_1 : am_code 150 1 = some (.iconst 0, 1) := by decide +kernel
theorem s_150_1 (cl : am_C) (ls : am_Ls) (st : List am_V) (h : am_H) : am_go0 cl 150 1 ls st h = am_go0 cl 150 2 ls (.inl 0 :: st) h := am_rK am_m150 d_150_1 (by decide) rfl _ _ _
theorem d_150_2 : am_code 150 2 = some (.aload_n 0, 1) := by decide +kernel
theorem s_150_2 (cl : am_C) (a1 : Option am_V) (x : Nat) (st : List am_V) (h : am_H) : am_go0 cl 150 2 [some (.inr (.inr (some x))), a1] st h = am_go0 cl 150 3 [some (.inr (.inr (some x))), a1] (.inr (.inr (some x)) :: st) h := am_r am_m150 d_150_2 rfl
theorem d_150_3 : am_code 150 3 = some (.getfield 189, 3) := by decide +kernel
theorem s_150_3 (cl : am_C) (ls : am_Ls) (st : List am_V) (N : Nat) (I : Nat → Int → Int) (L : Nat → Int → Int64) : am_go0 cl 150 3 ls (.inr (.inr (some 53)) :: st) (am_GS N, am_GR, I, L) = am_go0 cl 150 6 ls (.inl (I 53 21) :: st) (am_GS N, am_GR, I, L) := am_rG0 am_m150 d_150_3 am_f9189 rfl (gs_53 N) (by decide) rfl
theorem d_150_6 : am_code 150 6 = some (.iconst 1, 1) := by decide +kernel
theorem s_150_6 (cl : am_C) (ls : am_Ls) (st : List am_V) (h : am_H) : am_go0 cl 150 6 ls st h = am_go0 cl 150 7 ls (.inl 1 :: st) h := am_rK am_m150 d_150_6 (by decide) rfl _ _ _
theorem d_150_7 : am_code 150 7 = some (.isub, 1) := by decide +kernel
theorem s_150_7 (cl : am_C) (ls : am_Ls) (x y : Int) (st : List am_V) (h : am_H) : am_go0 cl 150 7 ls (.inl y :: .inl x :: st) h = am_go0 cl 150 8 ls (.inl (am_wr (x - y)) :: st) h := am_r am_m150 d_150_7 rfl
theorem d_150_8 : am_code 150 8 = some (.invokestatic 151, 3) := by decide +kernel
theorem s_150_8 (cl : am_C) (ls : am_Ls) (x0 : Int) (x1 : Int) (x2 : Int) (h : am_H) : am_go0 cl 150 8 ls [.inl x2, .inl x1, .inl x0] h = am_bd (cl 135 [.inl x0, .inl x1, .inl x2] h) (fun v h2 => am_go0 cl 150 11 ls (v.toList ++ []) h2) := am_rVs am_m150 d_150_8 am_k9151 rfl (Nat.le_of_ble_eq_true rfl) rfl ls
theorem d_150_11 : am_code 150 11 = some (.ireturn, 1) := by decide +kernel
theorem s_150_11 (cl : am_C) (ls : am_Ls) (x : Int) (h : am_H) : am_go0 cl 150 11 ls [.inl x] h = if x = 0 ∨ x = 1 then some (some (.inl x), h) else none := am_rRz am_m150 d_150_11 x ls h
theorem e_150 (d : Nat) (t : Nat) (p0 : Int) (h : am_H) : am_call (d + 1) 150 [.inr (.inr (some t)), .inl p0] h = am_go0 (am_call d) 150 0 [some (.inr (.inr (some t))), some (.inl p0)] [] h := am_callE am_m150 (Nat.le_of_ble_eq_true rfl) rfl
theorem d_151_0 : am_code 151 0 = some (.iload_n 0, 1) := by decide +kernel
theorem s_151_0 (cl : am_C) (a1 : Option am_V) (x : Int) (st : List am_V) (h : am_H) : am_go0 cl 151 0 [some (.inl x), a1] st h = am_go0 cl 151 1 [some (.inl x), a1] (.inl x :: st) h := am_r am_m151 d_151_0 rfl
theorem d_151_1 : am_code 151 1 = some (.iload_n 1, 1) := by decide +kernel
theorem s_151_1 (cl : am_C) (a0 : Option am_V) (x : Int) (st : List am_V) (h : am_H) : am_go0 cl 151 1 [a0, some (.inl x)] st h = am_go0 cl 151 2 [a0, some (.inl x)] (.inl x :: st) h := am_r am_m151 d_151_1 rfl
theorem d_151_2 : am_code 151 2 = some (.if_icmp .le 7, 3) := by decide +kernel
theorem s_151_2 (cl : am_C) (ls : am_Ls) (x y : Int) (st : List am_V) (h : am_H) : am_go0 cl 151 2 ls (.inl y :: .inl x :: st) h = if y < x then am_go0 cl 151 5 ls st h else am_go0 cl 151 9 ls st h := (am_rJ0 am_m151 d_151_2 (by decide) rfl x y ls st h).trans (am_ifF ((am_cmp_le x y).trans Int.not_lt.symm) _ _)
theorem d_151_5 : am_code 151 5 = some (.iload_n 0, 1) := by decide +kernel
theorem s_151_5 (cl : am_C) (a1 : Option am_V) (x : Int) (st : List am_V) (h : am_H) : am_go0 cl 151 5 [some (.inl x), a1] st h = am_go0 cl 151 6 [some (.inl x), a1] (.inl x :: st) h := am_r am_m151 d_151_5 rfl
theorem d_151_6 : am_code 151 6 = some (.goto 4, 3) := by decide +kernel
theorem s_151_6 (cl : am_C) (ls : am_Ls) (st : List am_V) (h : am_H) : am_go0 cl 151 6 ls st h = am_go0 cl 151 10 ls st h := am_rGo am_m151 d_151_6 (by decide) _ _ _
theorem d_151_9 : am_code 151 9 = some (.iload_n 1, 1) := by decide +kernel
theorem s_151_9 (cl : am_C) (a0 : Option am_V) (x : Int) (st : List am_V) (h : am_H) : am_go0 cl 151 9 [a0, some (.inl x)] st h = am_go0 cl 151 10 [a0, some (.inl x)] (.inl x :: st) h := am_r am_m151 d_151_9 rfl
theorem d_151_10 : am_code 151 10 = some (.ireturn, 1) := by decide +kernel
theorem s_151_10 (cl : am_C) (ls : am_Ls) (x : Int) (h : am_H) : am_go0 cl 151 10 ls [.inl x] h = some (some (.inl x), h) := am_rE am_m151 d_151_10 rfl
theorem e_151 (d : Nat) (p0 : Int) (p1 : Int) (h : am_H) : am_call (d + 1) 151 [.inl p0, .inl p1] h = am_go0 (am_call d) 151 0 [some (.inl p0), some (.inl p1)] [] h := am_callE am_m151 (Nat.le_of_ble_eq_true rfl) rfl
theorem d_152_0 : am_code 152 0 = some (.aload_n 0, 1) := by decide +kernel
theorem s_152_0 (cl : am_C) (a1 a2 a3 : Option am_V) (x : Nat) (st : List am_V) (h : am_H) : am_go0 cl 152 0 [some (.inr (.inr (some x))), a1, a2, a3] st h = am_go0 cl 152 1 [some (.inr (.inr (some x))), a1, a2, a3] (.inr (.inr (some x)) :: st) h := am_r am_m152 d_152_0 rfl
theorem d_152_1 : am_code 152 1 = some (.iload_n 1, 1) := by decide +kernel
theorem s_152_1 (cl : am_C) (a0 a2 a3 : Option am_V) (x : Int) (st : List am_V) (h : am_H) : am_go0 cl 152 1 [a0, some (.inl x), a2, a3] st h = am_go0 cl 152 2 [a0, some (.inl x), a2, a3] (.inl x :: st) h := am_r am_m152 d_152_1 rfl
theorem d_152_2 : am_code 152 2 = some (.invokevirtual 186, 3) := by decide +kernel
theorem s_152_2 (cl : am_C) (ls : am_Ls) (x0 : Int) (N : Nat) (I : Nat → Int → Int) (L : Nat → Int → Int64) : am_go0 cl 152 2 ls [.inl x0, .inr (.inr (some 53))] (am_GS N, am_GR, I, L) = am_bd (cl 147 [.inr (.inr (some 53)), .inl x0] (am_GS N, am_GR, I, L)) (fun v h2 => am_go0 cl 152 5 ls (v.toList ++ []) h2) := am_rV am_m152 d_152_2 am_k9186 rfl am_m147 (gs_53 N) (by decide) (Nat.le_of_ble_eq_true rfl) rfl ls
theorem d_152_5 : am_code 152 5 = some (.ifCond .eq 52, 3) := by decide +kernel
theorem s_152_5 (cl : am_C) (ls : am_Ls) (x : Int) (st : List am_V) (h : am_H) : am_go0 cl 152 5 ls (.inl x :: st) h = if x = 0 then am_go0 cl 152 57 ls st h else am_go0 cl 152 8 ls st h := (am_rJ1 am_m152 d_152_5 (by decide) rfl x ls st h).trans (am_ifT (am_cmp_eq x 0) _ _)
theorem d_152_8 : am_code 152 8 = some (.iload_n 2, 1) := by decide +kernel
theorem s_152_8 (cl : am_C) (a0 a1 a3 : Option am_V) (x : Int) (st : List am_V) (h : am_H) : am_go0 cl 152 8 [a0, a1, some (.inl x), a3] st h = am_go0 cl 152 9 [a0, a1, some (.inl x), a3] (.inl x :: st) h := am_r am_m152 d_152_8 rfl
theorem d_152_9 : am_code 152 9 = some (.iconst 0, 1) := by decide +kernel
theorem s_152_9 (cl : am_C) (ls : am_Ls) (st : List am_V) (h : am_H) : am_go0 cl 152 9 ls st h = am_go0 cl 152 10 ls (.inl 0 :: st) h := am_rK am_m152 d_152_9 (by decide) rfl _ _ _
theorem d_152_10 : am_code 152 10 = some (.aload_n 0, 1) := by decide +kernel
theorem s_152_10 (cl : am_C) (a1 a2 a3 : Option am_V) (x : Nat) (st : List am_V) (h : am_H) : am_go0 cl 152 10 [some (.inr (.inr (some x))), a1, a2, a3] st h = am_go0 cl 152 11 [some (.inr (.inr (some x))), a1, a2, a3] (.inr (.inr (some x)) :: st) h := am_r am_m152 d_152_10 rfl
theorem d_152_11 : am_code 152 11 = some (.getfield 35, 3) := by decide +kernel
theorem s_152_11 (cl : am_C) (ls : am_Ls) (st : List am_V) (N : Nat) (I : Nat → Int → Int) (L : Nat → Int → Int64) : am_go0 cl 152 11 ls (.inr (.inr (some 53)) :: st) (am_GS N, am_GR, I, L) = am_go0 cl 152 14 ls (.inr (.inr (some 61)) :: st) (am_GS N, am_GR, I, L) := am_rG2 am_m152 d_152_11 am_f9035 rfl (gs_53 N) (by decide) gr_53_10 rfl
theorem d_152_14 : am_code 152 14 = some (.aload_n 0, 1) := by decide +kernel
theorem s_152_14 (cl : am_C) (a1 a2 a3 : Option am_V) (x : Nat) (st : List am_V) (h : am_H) : am_go0 cl 152 14 [some (.inr (.inr (some x))), a1, a2, a3] st h = am_go0 cl 152 15 [some (.inr (.inr (some x))), a1, a2, a3] (.inr (.inr (some x)) :: st) h := am_r am_m152 d_152_14 rfl
theorem d_152_15 : am_code 152 15 = some (.getfield 47, 3) := by decide +kernel
theorem s_152_15 (cl : am_C) (ls : am_Ls) (st : List am_V) (N : Nat) (I : Nat → Int → Int) (L : Nat → Int → Int64) : am_go0 cl 152 15 ls (.inr (.inr (some 53)) :: st) (am_GS N, am_GR, I, L) = am_go0 cl 152 18 ls (.inr (.inr (some 65)) :: st) (am_GS N, am_GR, I, L) := am_rG2 am_m152 d_152_15 am_f9047 rfl (gs_53 N) (by decide) gr_53_15 rfl
theorem d_152_18 : am_code 152 18 = some (.iload_n 1, 1) := by decide +kernel
theorem s_152_18 (cl : am_C) (a0 a2 a3 : Option am_V) (x : Int) (st : List am_V) (h : am_H) : am_go0 cl 152 18 [a0, some (.inl x), a2, a3] st h = am_go0 cl 152 19 [a0, some (.inl x), a2, a3] (.inl x :: st) h := am_r am_m152 d_152_18 rfl
theorem d_152_19 : am_code 152 19 = some (.iaload, 1) := by decide +kernel
theorem s_152_19 (cl : am_C) (ls : am_Ls) (i : Int) (k : Nat) (st : List am_V) (N : Nat) (I : Nat → Int → Int) (L : Nat → Int → Int64) : am_go0 cl 152 19 ls (.inl i :: .inr (.inr (some k)) :: st) (am_GS N, am_GR, I, L) = if am_inb (am_GS N) k 0 i = true then am_go0 cl 152 20 ls (.inl (I k i) :: st) (am_GS N, am_GR, I, L) else none := am_rA am_m152 d_152_19 (by decide) rfl k ls st i _ _ I L
theorem d_152_20 : am_code 152 20 = some (.iaload, 1) := by decide +kernel
theorem s_152_20 (cl : am_C) (ls : am_Ls) (i : Int) (k : Nat) (st : List am_V) (N : Nat) (I : Nat → Int → Int) (L : Nat → Int → Int64) : am_go0 cl 152 20 ls (.inl i :: .inr (.inr (some k)) :: st) (am_GS N, am_GR, I, L) = if am_inb (am_GS N) k 0 i = true then am_go0 cl 152 21 ls (.inl (I k i) :: st) (am_GS N, am_GR, I, L) else none := am_rA am_m152 d_152_20 (by decide) rfl k ls st i _ _ I L
theorem d_152_21 : am_code 152 21 = some (.iconst 1, 1) := by decide +kernel
theorem s_152_21 (cl : am_C) (ls : am_Ls) (st : List am_V) (h : am_H) : am_go0 cl 152 21 ls st h = am_go0 cl 152 22 ls (.inl 1 :: st) h := am_rK am_m152 d_152_21 (by decide) rfl _ _ _
theorem d_152_22 : am_code 152 22 = some (.isub, 1) := by decide +kernel
theorem s_152_22 (cl : am_C) (ls : am_Ls) (x y : Int) (st : List am_V) (h : am_H) : am_go0 cl 152 22 ls (.inl y :: .inl x :: st) h = am_go0 cl 152 23 ls (.inl (am_wr (x - y)) :: st) h := am_r am_m152 d_152_22 rfl
theorem d_152_23 : am_code 152 23 = some (.invokestatic 151, 3) := by decide +kernel
theorem s_152_23 (cl : am_C) (ls : am_Ls) (x0 : Int) (x1 : Int) (x2 : Int) (h : am_H) : am_go0 cl 152 23 ls [.inl x2, .inl x1, .inl x0] h = am_bd (cl 135 [.inl x0, .inl x1, .inl x2] h) (fun v h2 => am_go0 cl 152 26 ls (v.toList ++ []) h2) := am_rVs am_m152 d_152_23 am_k9151 rfl (Nat.le_of_ble_eq_true rfl) rfl ls
theorem d_152_26 : am_code 152 26 = some (.ifCond .eq 31, 3) := by decide +kernel
theorem s_152_26 (cl : am_C) (ls : am_Ls) (x : Int) (st : List am_V) (h : am_H) : am_go0 cl 152 26 ls (.inl x :: st) h = if x = 0 then am_go0 cl 152 57 ls st h else am_go0 cl 152 29 ls st h := (am_rJ1 am_m152 d_152_26 (by decide) rfl x ls st h).trans (am_ifT (am_cmp_eq x 0) _ _)
theorem d_152_29 : am_code 152 29 = some (.iload_n 3, 1) := by decide +kernel
theorem s_152_29 (cl : am_C) (a0 a1 a2 : Option am_V) (x : Int) (st : List am_V) (h : am_H) : am_go0 cl 152 29 [a0, a1, a2, some (.inl x)] st h = am_go0 cl 152 30 [a0, a1, a2, some (.inl x)] (.inl x :: st) h := am_r am_m152 d_152_29 rfl
theorem d_152_30 : am_code 152 30 = some (.iconst (-1), 1) := by decide +kernel
theorem s_152_30 (cl : am_C) (ls : am_Ls) (st : List am_V) (h : am_H) : am_go0 cl 152 30 ls st h = am_go0 cl 152 31 ls (.inl (-1) :: st) h := am_rK am_m152 d_152_30 (by decide) rfl _ _ _
theorem d_152_31 : am_code 152 31 = some (.if_icmp .eq 29, 3) := by decide +kernel
theorem s_152_31 (cl : am_C) (ls : am_Ls) (x y : Int) (st : List am_V) (h : am_H) : am_go0 cl 152 31 ls (.inl y :: .inl x :: st) h = if x = y then am_go0 cl 152 60 ls st h else am_go0 cl 152 34 ls st h := (am_rJ0 am_m152 d_152_31 (by decide) rfl x y ls st h).trans (am_ifT (am_cmp_eq x y) _ _)
theorem d_152_34 : am_code 152 34 = some (.aload_n 0, 1) := by decide +kernel
theorem s_152_34 (cl : am_C) (a1 a2 a3 : Option am_V) (x : Nat) (st : List am_V) (h : am_H) : am_go0 cl 152 34 [some (.inr (.inr (some x))), a1, a2, a3] st h = am_go0 cl 152 35 [some (.inr (.inr (some x))), a1, a2, a3] (.inr (.inr (some x)) :: st) h := am_r am_m152 d_152_34 rfl
theorem d_152_35 : am_code 152 35 = some (.iload_n 3, 1) := by decide +kernel
theorem s_152_35 (cl : am_C) (a0 a1 a2 : Option am_V) (x : Int) (st : List am_V) (h : am_H) : am_go0 cl 152 35 [a0, a1, a2, some (.inl x)] st h = am_go0 cl 152 36 [a0, a1, a2, some (.inl x)] (.inl x :: st) h := am_r am_m152 d_152_35 rfl
theorem d_152_36 : am_code 152 36 = some (.invokevirtual 192, 3) := by decide +kernel
theorem s_152_36 (cl : am_C) (ls : am_Ls) (x0 : Int) (N : Nat) (I : Nat → Int → Int) (L : Nat → Int → Int64) : am_go0 cl 152 36 ls [.inl x0, .inr (.inr (some 53))] (am_GS N, am_GR, I, L) = am_bd (cl 150 [.inr (.inr (some 53)), .inl x0] (am_GS N, am_GR, I, L)) (fun v h2 => am_go0 cl 152 39 ls (v.toList ++ []) h2) := am_rV am_m152 d_152_36 am_k9192 rfl am_m150 (gs_53 N) (by decide) (Nat.le_of_ble_eq_true rfl) rfl ls
theorem d_152_39 : am_code 152 39 = some (.ifCond .eq 18, 3) := by decide +kernel
theorem s_152_39 (cl : am_C) (ls : am_Ls) (x : Int) (st : List am_V) (h : am_H) : am_go0 cl 152 39 ls (.inl x :: st) h = if x = 0 then am_go0 cl 152 57 ls st h else am_go0 cl 152 42 ls st h := (am_rJ1 am_m152 d_152_39 (by decide) rfl x ls st h).trans (am_ifT (am_cmp_eq x 0) _ _)
theorem d_152_42 : am_code 152 42 = some (.aload_n 0, 1) := by decide +kernel
theorem s_152_42 (cl : am_C) (a1 a2 a3 : Option am_V) (x : Nat) (st : List am_V) (h : am_H) : am_go0 cl 152 42 [some (.inr (.inr (some x))), a1, a2, a3] st h = am_go0 cl 152 43 [some (.inr (.inr (some x))), a1, a2, a3] (.inr (.inr (some x)) :: st) h := am_r am_m152 d_152_42 rfl
theorem d_152_43 : am_code 152 43 = some (.iload_n 3, 1) := by decide +kernel
theorem s_152_43 (cl : am_C) (a0 a1 a2 : Option am_V) (x : Int) (st : List am_V) (h : am_H) : am_go0 cl 152 43 [a0, a1, a2, some (.inl x)] st h = am_go0 cl 152 44 [a0, a1, a2, some (.inl x)] (.inl x :: st) h := am_r am_m152 d_152_43 rfl
theorem d_152_44 : am_code 152 44 = some (.aload_n 0, 1) := by decide +kernel
theorem s_152_44 (cl : am_C) (a1 a2 a3 : Option am_V) (x : Nat) (st : List am_V) (h : am_H) : am_go0 cl 152 44 [some (.inr (.inr (some x))), a1, a2, a3] st h = am_go0 cl 152 45 [some (.inr (.inr (some x))), a1, a2, a3] (.inr (.inr (some x)) :: st) h := am_r am_m152 d_152_44 rfl
theorem d_152_45 : am_code 152 45 = some (.getfield 47, 3) := by decide +kernel
theorem s_152_45 (cl : am_C) (ls : am_Ls) (st : List am_V) (N : Nat) (I : Nat → Int → Int) (L : Nat → Int → Int64) : am_go0 cl 152 45 ls (.inr (.inr (some 53)) :: st) (am_GS N, am_GR, I, L) = am_go0 cl 152 48 ls (.inr (.inr (some 65)) :: st) (am_GS N, am_GR, I, L) := am_rG2 am_m152 d_152_45 am_f9047 rfl (gs_53 N) (by decide) gr_53_15 rfl
theorem d_152_48 : am_code 152 48 = some (.iload_n 1, 1) := by decide +kernel
theorem s_152_48 (cl : am_C) (a0 a2 a3 : Option am_V) (x : Int) (st : List am_V) (h : am_H) : am_go0 cl 152 48 [a0, some (.inl x), a2, a3] st h = am_go0 cl 152 49 [a0, some (.inl x), a2, a3] (.inl x :: st) h := am_r am_m152 d_152_48 rfl
theorem d_152_49 : am_code 152 49 = some (.iaload, 1) := by decide +kernel
theorem s_152_49 (cl : am_C) (ls : am_Ls) (i : Int) (k : Nat) (st : List am_V) (N : Nat) (I : Nat → Int → Int) (L : Nat → Int → Int64) : am_go0 cl 152 49 ls (.inl i :: .inr (.inr (some k)) :: st) (am_GS N, am_GR, I, L) = if am_inb (am_GS N) k 0 i = true then am_go0 cl 152 50 ls (.inl (I k i) :: st) (am_GS N, am_GR, I, L) else none := am_rA am_m152 d_152_49 (by decide) rfl k ls st i _ _ I L
theorem d_152_50 : am_code 152 50 = some (.iload_n 1, 1) := by decide +kernel
theorem s_152_50 (cl : am_C) (a0 a2 a3 : Option am_V) (x : Int) (st : List am_V) (h : am_H) : am_go0 cl 152 50 [a0, some (.inl x), a2, a3] st h = am_go0 cl 152 51 [a0, some (.inl x), a2, a3] (.inl x :: st) h := am_r am_m152 d_152_50 rfl
theorem d_152_51 : am_code 152 51 = some (.invokevirtual 205, 3) := by decide +kernel
theorem s_152_51 (cl : am_C) (ls : am_Ls) (x0 : Int) (x1 : Int) (x2 : Int) (N : Nat) (I : Nat → Int → Int) (L : Nat → Int → Int64) : am_go0 cl 152 51 ls [.inl x2, .inl x1, .inl x0, .inr (.inr (some 53))] (am_GS N, am_GR, I, L) = am_bd (cl 153 [.inr (.inr (some 53)), .inl x0, .inl x1, .inl x2] (am_GS N, am_GR, I, L)) (fun v h2 => am_go0 cl 152 54 ls (v.toList ++ []) h2) := am_rV am_m152 d_152_51 am_k9205 rfl am_m153 (gs_53 N) (by decide) (Nat.le_of_ble_eq_true rfl) rfl ls
theorem d_152_54 : am_code 152 54 = some (.ifCond .ne 6, 3) := by decide +kernel
theorem s_152_54 (cl : am_C) (ls : am_Ls) (x : Int) (st : List am_V) (h : am_H) : am_go0 cl 152 54 ls (.inl x :: st) h = if x = 0 then am_go0 cl 152 57 ls st h else am_go0 cl 152 60 ls st h := (am_rJ1 am_m152 d_152_54 (by decide) rfl x ls st h).trans (am_ifF ((am_cmp_ne x 0).trans Iff.rfl) _ _)
theorem d_152_57 : am_code 152 57 = some (.bipush (-2), 2) := by decide +kernel
theorem s_152_57 (cl : am_C) (ls : am_Ls) (st : List am_V) (h : am_H) : am_go0 cl 152 57 ls st h = am_go0 cl 152 59 ls (.inl (-2) :: st) h := am_rB am_m152 d_152_57 (by decide) rfl _ _ _
theorem d_152_59 : am_code 152 59 = some (.ireturn, 1) := by decide +kernel
theorem s_152_59 (cl : am_C) (ls : am_Ls) (x : Int) (h : am_H) : am_go0 cl 152 59 ls [.inl x] h = some (some (.inl x), h) := am_rE am_m152 d_152_59 rfl
theorem d_152_60 : am_code 152 60 = some (.aload_n 0, 1) := by decide +kernel
theorem s_152_60 (cl : am_C) (a1 a2 a3 : Option am_V) (x : Nat) (st : List am_V) (h : am_H) : am_go0 cl 152 60 [some (.inr (.inr (some x))), a1, a2, a3] st h = am_go0 cl 152 61 [some (.inr (.inr (some x))), a1, a2, a3] (.inr (.inr (some x)) :: st) h := am_r am_m152 d_152_60 rfl
theorem d_152_61 : am_code 152 61 = some (.getfield 62, 3) := by decide +kernel
theorem s_152_61 (cl : am_C) (ls : am_Ls) (st : List am_V) (N : Nat) (I : Nat → Int → Int) (L : Nat → Int → Int64) : am_go0 cl 152 61 ls (.inr (.inr (some 53)) :: st) (am_GS N, am_GR, I, L) = am_go0 cl 152 64 ls (.inr (.inr (some 70)) :: st) (am_GS N, am_GR, I, L) := am_rG2 am_m152 d_152_61 am_f9062 rfl (gs_53 N) (by decide) gr_53_20 rfl
theorem d_152_64 : am_code 152 64 = some (.iconst 4, 1) := by decide +kernel
theorem s_152_64 (cl : am_C) (ls : am_Ls) (st : List am_V) (h : am_H) : am_go0 cl 152 64 ls st h = am_go0 cl 152 65 ls (.inl 4 :: st) h := am_rK am_m152 d_152_64 (by decide) rfl _ _ _
theorem d_152_65 : am_code 152 65 = some (.iload_n 1, 1) := by decide +kernel
theorem s_152_65 (cl : am_C) (a0 a2 a3 : Option am_V) (x : Int) (st : List am_V) (h : am_H) : am_go0 cl 152 65 [a0, some (.inl x), a2, a3] st h = am_go0 cl 152 66 [a0, some (.inl x), a2, a3] (.inl x :: st) h := am_r am_m152 d_152_65 rfl
theorem d_152_66 : am_code 152 66 = some (.imul, 1) := by decide +kernel
theorem s_152_66 (cl : am_C) (ls : am_Ls) (x y : Int) (st : List am_V) (h : am_H) : am_go0 cl 152 66 ls (.inl y :: .inl x :: st) h = am_go0 cl 152 67 ls (.inl (am_wr (x * y)) :: st) h := am_r am_m152 d_152_66 rfl
theorem d_152_67 : am_code 152 67 = some (.iload_n 2, 1) := by decide +kernel
theorem s_152_67 (cl : am_C) (a0 a1 a3 : Option am_V) (x : Int) (st : List am_V) (h : am_H) : am_go0 cl 152 67 [a0, a1, some (.inl x), a3] st h = am_go0 cl 152 68 [a0, a1, some (.inl x), a3] (.inl x :: st) h := am_r am_m152 d_152_67 rfl
theorem d_152_68 : am_code 152 68 = some (.iadd, 1) := by decide +kernel
theorem s_152_68 (cl : am_C) (ls : am_Ls) (x y : Int) (st : List am_V) (h : am_H) : am_go0 cl 152 68 ls (.inl y :: .inl x :: st) h = am_go0 cl 152 69 ls (.inl (am_wr (x + y)) :: st) h := am_r am_m152 d_152_68 rfl
theorem d_152_69 : am_code 152 69 = some (.iload_n 3, 1) := by decide +kernel
theorem s_152_69 (cl : am_C) (a0 a1 a2 : Option am_V) (x : Int) (st : List am_V) (h : am_H) : am_go0 cl 152 69 [a0, a1, a2, some (.inl x)] st h = am_go0 cl 152 70 [a0, a1, a2, some (.inl x)] (.inl x :: st) h := am_r am_m152 d_152_69 rfl
theorem d_152_70 : am_code 152 70 = some (.iastore, 1) := by decide +kernel
theorem s_152_70 (cl : am_C) (ls : am_Ls) (i : Int) (v : Int) (k : Nat) (st : List am_V) (N : Nat) (I : Nat → Int → Int) (L : Nat → Int → Int64) : am_go0 cl 152 70 ls (.inl v :: .inl i :: .inr (.inr (some k)) :: st) (am_GS N, am_GR, I, L) = if am_inb (am_GS N) k 0 i = true then am_go0 cl 152 71 ls st (am_GS N, am_GR, am_uI I k i v, L) else none := am_rS am_m152 d_152_70 rfl k ls st i v _ _ I L
theorem d_152_71 : am_code 152 71 = some (.aload_n 0, 1) := by decide +kernel
theorem s_152_71 (cl : am_C) (a1 a2 a3 : Option am_V) (x : Nat) (st : List am_V) (h : am_H) : am_go0 cl 152 71 [some (.inr (.inr (some x))), a1, a2, a3] st h = am_go0 cl 152 72 [some (.inr (.inr (some x))), a1, a2, a3] (.inr (.inr (some x)) :: st) h := am_r am_m152 d_152_71 rfl
theorem d_152_72 : am_code 152 72 = some (.iconst 1, 1) := by decide +kernel
theorem s_152_72 (cl : am_C) (ls : am_Ls) (st : List am_V) (h : am_H) : am_go0 cl 152 72 ls st h = am_go0 cl 152 73 ls (.inl 1 :: st) h := am_rK am_m152 d_152_72 (by decide) rfl _ _ _
theorem d_152_73 : am_code 152 73 = some (.invokevirtual 175, 3) := by decide +kernel
theorem s_152_73 (cl : am_C) (ls : am_Ls) (x0 : Int) (N : Nat) (I : Nat → Int → Int) (L : Nat → Int → Int64) : am_go0 cl 152 73 ls [.inl x0, .inr (.inr (some 53))] (am_GS N, am_GR, I, L) = am_bd (cl 141 [.inr (.inr (some 53)), .inl x0] (am_GS N, am_GR, I, L)) (fun v h2 => am_go0 cl 152 76 ls (v.toList ++ []) h2) := am_rV am_m152 d_152_73 am_k9175 rfl am_m141 (gs_53 N) (by decide) (Nat.le_of_ble_eq_true rfl) rfl ls
theorem d_152_76 : am_code 152 76 = some (.ireturn, 1) := by decide +kernel
theorem s_152_76 (cl : am_C) (ls : am_Ls) (x : Int) (h : am_H) : am_go0 cl 152 76 ls [.inl x] h = some (some (.inl x), h) := am_rE am_m152 d_152_76 rfl
theorem e_152 (d : Nat) (t : Nat) (p0 : Int) (p1 : Int) (p2 : Int) (h : am_H) : am_call (d + 1) 152 [.inr (.inr (some t)), .inl p0, .inl p1, .inl p2] h = am_go0 (am_call d) 152 0 [some (.inr (.inr (some t))), some (.inl p0), some (.inl p1), some (.inl p2)] [] h := am_callE am_m152 (Nat.le_of_ble_eq_true rfl) rfl
theorem d_153_0 : am_code 153 0 = some (.iconst 0, 1) := by decide +kernel
theorem s_153_0 (cl : am_C) (ls : am_Ls) (st : List am_V) (h : am_H) : am_go0 cl 153 0 ls st h = am_go0 cl 153 1 ls (.inl 0 :: st) h := am_rK am_m153 d_153_0 (by decide) rfl _ _ _
theorem d_153_1 : am_code 153 1 = some (.istore 4, 2) := by decide +kernel
theorem s_153_1 (cl : am_C) (a0 a1 a2 a3 a4 a5 : Option am_V) (x : Int) (st : List am_V) (h : am_H) : am_go0 cl 153 1 [a0, a1, a2, a3, a4, a5] (.inl x :: st) h = am_go0 cl 153 3 [a0, a1, a2, am_c1 a3, some (.inl x), a5] st h := am_r am_m153 d_153_1 rfl
theorem d_153_3 : am_code 153 3 = some (.iload 4, 2) := by decide +kernel
theorem s_153_3 (cl : am_C) (a0 a1 a2 a3 a5 : Option am_V) (x : Int) (st : List am_V) (h : am_H) : am_go0 cl 153 3 [a0, a1, a2, a3, some (.inl x), a5] st h = am_go0 cl 153 5 [a0, a1, a2, a3, some (.inl x), a5] (.inl x :: st) h := am_r am_m153 d_153_3 rfl
theorem d_153_5 : am_code 153 5 = some (.bipush 80, 2) := by decide +kernel
theorem s_153_5 (cl : am_C) (ls : am_Ls) (st : List am_V) (h : am_H) : am_go0 cl 153 5 ls st h = am_go0 cl 153 7 ls (.inl 80 :: st) h := am_rB am_m153 d_153_5 (by decide) rfl _ _ _
theorem d_153_7 : am_code 153 7 = some (.if_icmp .ge 27, 3) := by decide +kernel
theorem s_153_7 (cl : am_C) (ls : am_Ls) (x y : Int) (st : List am_V) (h : am_H) : am_go0 cl 153 7 ls (.inl y :: .inl x :: st) h = if x < y then am_go0 cl 153 10 ls st h else am_go0 cl 153 34 ls st h := (am_rJ0 am_m153 d_153_7 (by decide) rfl x y ls st h).trans (am_ifF ((am_cmp_ge x y).trans Int.not_lt.symm) _ _)
theorem d_153_10 : am_code 153 10 = some (.aload_n 0, 1) := by decide +kernel
theorem s_153_10 (cl : am_C) (a1 a2 a3 a4 a5 : Option am_V) (x : Nat) (st : List am_V) (h : am_H) : am_go0 cl 153 10 [some (.inr (.inr (some x))), a1, a2, a3, a4, a5] st h = am_go0 cl 153 11 [some (.inr (.inr (some x))), a1, a2, a3, a4, a5] (.inr (.inr (some x)) :: st) h := am_r am_m153 d_153_10 rfl
theorem d_153_11 : am_code 153 11 = some (.getfield 80, 3) := by decide +kernel
theorem s_153_11 (cl : am_C) (ls : am_Ls) (st : List am_V) (N : Nat) (I : Nat → Int → Int) (L : Nat → Int → Int64) : am_go0 cl 153 11 ls (.inr (.inr (some 53)) :: st) (am_GS N, am_GR, I, L) = am_go0 cl 153 14 ls (.inr (.inr (some 76)) :: st) (am_GS N, am_GR, I, L) := am_rG2 am_m153 d_153_11 am_f9080 rfl (gs_53 N) (by decide) gr_53_27 rfl
theorem d_153_14 : am_code 153 14 = some (.iload 4, 2) := by decide +kernel
theorem s_153_14 (cl : am_C) (a0 a1 a2 a3 a5 : Option am_V) (x : Int) (st : List am_V) (h : am_H) : am_go0 cl 153 14 [a0, a1, a2, a3, some (.inl x), a5] st h = am_go0 cl 153 16 [a0, a1, a2, a3, some (.inl x), a5] (.inl x :: st) h := am_r am_m153 d_153_14 rfl
theorem d_153_16 : am_code 153 16 = some (.iload 4, 2) := by decide +kernel
theorem s_153_16 (cl : am_C) (a0 a1 a2 a3 a5 : Option am_V) (x : Int) (st : List am_V) (h : am_H) : am_go0 cl 153 16 [a0, a1, a2, a3, some (.inl x), a5] st h = am_go0 cl 153 18 [a0, a1, a2, a3, some (.inl x), a5] (.inl x :: st) h := am_r am_m153 d_153_16 rfl
theorem d_153_18 : am_code 153 18 = some (.iload_n 1, 1) := by decide +kernel
theorem s_153_18 (cl : am_C) (a0 a2 a3 a4 a5 : Option am_V) (x : Int) (st : List am_V) (h : am_H) : am_go0 cl 153 18 [a0, some (.inl x), a2, a3, a4, a5] st h = am_go0 cl 153 19 [a0, some (.inl x), a2, a3, a4, a5] (.inl x :: st) h := am_r am_m153 d_153_18 rfl
theorem d_153_19 : am_code 153 19 = some (.if_icmp .ne 7, 3) := by decide +kernel
theorem s_153_19 (cl : am_C) (ls : am_Ls) (x y : Int) (st : List am_V) (h : am_H) : am_go0 cl 153 19 ls (.inl y :: .inl x :: st) h = if x = y then am_go0 cl 153 22 ls st h else am_go0 cl 153 26 ls st h := (am_rJ0 am_m153 d_153_19 (by decide) rfl x y ls st h).trans (am_ifF ((am_cmp_ne x y).trans Iff.rfl) _ _)
theorem d_153_22 : am_code 153 22 = some (.iconst 1, 1) := by decide +kernel
theorem s_153_22 (cl : am_C) (ls : am_Ls) (st : List am_V) (h : am_H) : am_go0 cl 153 22 ls st h = am_go0 cl 153 23 ls (.inl 1 :: st) h := am_rK am_m153 d_153_22 (by decide) rfl _ _ _
theorem d_153_23 : am_code 153 23 = some (.goto 4, 3) := by decide +kernel
theorem s_153_23 (cl : am_C) (ls : am_Ls) (st : List am_V) (h : am_H) : am_go0 cl 153 23 ls st h = am_go0 cl 153 27 ls st h := am_rGo am_m153 d_153_23 (by decide) _ _ _
theorem d_153_26 : am_code 153 26 = some (.iconst 0, 1) := by decide +kernel
theorem s_153_26 (cl : am_C) (ls : am_Ls) (st : List am_V) (h : am_H) : am_go0 cl 153 26 ls st h = am_go0 cl 153 27 ls (.inl 0 :: st) h := am_rK am_m153 d_153_26 (by decide) rfl _ _ _
theorem d_153_27 : am_code 153 27 = some (.bastore, 1) := by decide +kernel
theorem s_153_27 (cl : am_C) (ls : am_Ls) (i : Int) (v : Int) (k : Nat) (st : List am_V) (N : Nat) (I : Nat → Int → Int) (L : Nat → Int → Int64) : am_go0 cl 153 27 ls (.inl v :: .inl i :: .inr (.inr (some k)) :: st) (am_GS N, am_GR, I, L) = if am_inb (am_GS N) k 2 i = true ∧ (v = 0 ∨ v = 1) then am_go0 cl 153 28 ls st (am_GS N, am_GR, am_uI I k i v, L) else none := am_rSb am_m153 d_153_27 rfl k ls st i v _ _ I L
theorem d_153_28 : am_code 153 28 = some (.iinc 4 1, 3) := by decide +kernel
theorem s_153_28 (cl : am_C) (a0 a1 a2 a3 a5 : Option am_V) (x : Int) (st : List am_V) (h : am_H) : am_go0 cl 153 28 [a0, a1, a2, a3, some (.inl x), a5] st h = am_go0 cl 153 31 [a0, a1, a2, am_c1 a3, some (.inl (am_wr (x + 1))), a5] st h := am_r am_m153 d_153_28 rfl
theorem d_153_31 : am_code 153 31 = some (.goto (-28), 3) := by decide +kernel
theorem s_153_31 (cl : am_C) (ls : am_Ls) (st : List am_V) (h : am_H) : am_go0 cl 153 31 ls st h = am_go0 cl 153 3 ls st h := am_rGo am_m153 d_153_31 (by decide) _ _ _
theorem d_153_34 : am_code 153 34 = some (.iconst 1, 1) := by decide +kernel
theorem s_153_34 (cl : am_C) (ls : am_Ls) (st : List am_V) (h : am_H) : am_go0 cl 153 34 ls st h = am_go0 cl 153 35 ls (.inl 1 :: st) h := am_rK am_m153 d_153_34 (by decide) rfl _ _ _
theorem d_153_35 : am_code 153 35 = some (.istore 4, 2) := by decide +kernel
theorem s_153_35 (cl : am_C) (a0 a1 a2 a3 a4 a5 : Option am_V) (x : Int) (st : List am_V) (h : am_H) : am_go0 cl 153 35 [a0, a1, a2, a3, a4, a5] (.inl x :: st) h = am_go0 cl 153 37 [a0, a1, a2, am_c1 a3, some (.inl x), a5] st h := am_r am_m153 d_153_35 rfl
theorem d_153_37 : am_code 153 37 = some (.iload_n 1, 1) := by decide +kernel
theorem s_153_37 (cl : am_C) (a0 a2 a3 a4 a5 : Option am_V) (x : Int) (st : List am_V) (h : am_H) : am_go0 cl 153 37 [a0, some (.inl x), a2, a3, a4, a5] st h = am_go0 cl 153 38 [a0, some (.inl x), a2, a3, a4, a5] (.inl x :: st) h := am_r am_m153 d_153_37 rfl
theorem d_153_38 : am_code 153 38 = some (.istore 5, 2) := by decide +kernel
theorem s_153_38 (cl : am_C) (a0 a1 a2 a3 a4 a5 : Option am_V) (x : Int) (st : List am_V) (h : am_H) : am_go0 cl 153 38 [a0, a1, a2, a3, a4, a5] (.inl x :: st) h = am_go0 cl 153 40 [a0, a1, a2, a3, am_c1 a4, some (.inl x)] st h := am_r am_m153 d_153_38 rfl
theorem d_153_40 : am_code 153 40 = some (.iload 5, 2) := by decide +kernel
theorem s_153_40 (cl : am_C) (a0 a1 a2 a3 a4 : Option am_V) (x : Int) (st : List am_V) (h : am_H) : am_go0 cl 153 40 [a0, a1, a2, a3, a4, some (.inl x)] st h = am_go0 cl 153 42 [a0, a1, a2, a3, a4, some (.inl x)] (.inl x :: st) h := am_r am_m153 d_153_40 rfl
theorem d_153_42 : am_code 153 42 = some (.ifCond .lt 96, 3) := by decide +kernel
theorem s_153_42 (cl : am_C) (ls : am_Ls) (x : Int) (st : List am_V) (h : am_H) : am_go0 cl 153 42 ls (.inl x :: st) h = if x < 0 then am_go0 cl 153 138 ls st h else am_go0 cl 153 45 ls st h := (am_rJ1 am_m153 d_153_42 (by decide) rfl x ls st h).trans (am_ifT (am_cmp_lt x 0) _ _)
theorem d_153_45 : am_code 153 45 = some (.iload 4, 2) := by decide +kernel
theorem s_153_45 (cl : am_C) (a0 a1 a2 a3 a5 : Option am_V) (x : Int) (st : List am_V) (h : am_H) : am_go0 cl 153 45 [a0, a1, a2, a3, some (.inl x), a5] st h = am_go0 cl 153 47 [a0, a1, a2, a3, some (.inl x), a5] (.inl x :: st) h := am_r am_m153 d_153_45 rfl
theorem d_153_47 : am_code 153 47 = some (.ifCond .eq 91, 3) := by decide +kernel
theorem s_153_47 (cl : am_C) (ls : am_Ls) (x : Int) (st : List am_V) (h : am_H) : am_go0 cl 153 47 ls (.inl x :: st) h = if x = 0 then am_go0 cl 153 138 ls st h else am_go0 cl 153 50 ls st h := (am_rJ1 am_m153 d_153_47 (by decide) rfl x ls st h).trans (am_ifT (am_cmp_eq x 0) _ _)
theorem d_153_50 : am_code 153 50 = some (.aload_n 0, 1) := by decide +kernel
theorem s_153_50 (cl : am_C) (a1 a2 a3 a4 a5 : Option am_V) (x : Nat) (st : List am_V) (h : am_H) : am_go0 cl 153 50 [some (.inr (.inr (some x))), a1, a2, a3, a4, a5] st h = am_go0 cl 153 51 [some (.inr (.inr (some x))), a1, a2, a3, a4, a5] (.inr (.inr (some x)) :: st) h := am_r am_m153 d_153_50 rfl
theorem d_153_51 : am_code 153 51 = some (.getfield 80, 3) := by decide +kernel
theorem s_153_51 (cl : am_C) (ls : am_Ls) (st : List am_V) (N : Nat) (I : Nat → Int → Int) (L : Nat → Int → Int64) : am_go0 cl 153 51 ls (.inr (.inr (some 53)) :: st) (am_GS N, am_GR, I, L) = am_go0 cl 153 54 ls (.inr (.inr (some 76)) :: st) (am_GS N, am_GR, I, L) := am_rG2 am_m153 d_153_51 am_f9080 rfl (gs_53 N) (by decide) gr_53_27 rfl
theorem d_153_54 : am_code 153 54 = some (.iload 5, 2) := by decide +kernel
theorem s_153_54 (cl : am_C) (a0 a1 a2 a3 a4 : Option am_V) (x : Int) (st : List am_V) (h : am_H) : am_go0 cl 153 54 [a0, a1, a2, a3, a4, some (.inl x)] st h = am_go0 cl 153 56 [a0, a1, a2, a3, a4, some (.inl x)] (.inl x :: st) h := am_r am_m153 d_153_54 rfl
theorem d_153_56 : am_code 153 56 = some (.baload, 1) := by decide +kernel
theorem s_153_56 (cl : am_C) (ls : am_Ls) (i : Int) (k : Nat) (st : List am_V) (N : Nat) (I : Nat → Int → Int) (L : Nat → Int → Int64) : am_go0 cl 153 56 ls (.inl i :: .inr (.inr (some k)) :: st) (am_GS N, am_GR, I, L) = if am_inb (am_GS N) k 2 i = true then am_go0 cl 153 57 ls (.inl (I k i) :: st) (am_GS N, am_GR, I, L) else none := am_rAb am_m153 d_153_56 rfl k ls st i _ _ I L
theorem d_153_57 : am_code 153 57 = some (.ifCond .eq 75, 3) := by decide +kernel
theorem s_153_57 (cl : am_C) (ls : am_Ls) (x : Int) (st : List am_V) (h : am_H) : am_go0 cl 153 57 ls (.inl x :: st) h = if x = 0 then am_go0 cl 153 132 ls st h else am_go0 cl 153 60 ls st h := (am_rJ1 am_m153 d_153_57 (by decide) rfl x ls st h).trans (am_ifT (am_cmp_eq x 0) _ _)
theorem d_153_60 : am_code 153 60 = some (.aload_n 0, 1) := by decide +kernel
theorem s_153_60 (cl : am_C) (a1 a2 a3 a4 a5 : Option am_V) (x : Nat) (st : List am_V) (h : am_H) : am_go0 cl 153 60 [some (.inr (.inr (some x))), a1, a2, a3, a4, a5] st h = am_go0 cl 153 61 [some (.inr (.inr (some x))), a1, a2, a3, a4, a5] (.inr (.inr (some x)) :: st) h := am_r am_m153 d_153_60 rfl
theorem d_153_61 : am_code 153 61 = some (.getfield 65, 3) := by decide +kernel
theorem s_153_61 (cl : am_C) (ls : am_Ls) (st : List am_V) (N : Nat) (I : Nat → Int → Int) (L : Nat → Int → Int64) : am_go0 cl 153 61 ls (.inr (.inr (some 53)) :: st) (am_GS N, am_GR, I, L) = am_go0 cl 153 64 ls (.inr (.inr (some 71)) :: st) (am_GS N, am_GR, I, L) := am_rG2 am_m153 d_153_61 am_f9065 rfl (gs_53 N) (by decide) gr_53_22 rfl
theorem d_153_64 : am_code 153 64 = some (.iload 5, 2) := by decide +kernel
theorem s_153_64 (cl : am_C) (a0 a1 a2 a3 a4 : Option am_V) (x : Int) (st : List am_V) (h : am_H) : am_go0 cl 153 64 [a0, a1, a2, a3, a4, some (.inl x)] st h = am_go0 cl 153 66 [a0, a1, a2, a3, a4, some (.inl x)] (.inl x :: st) h := am_r am_m153 d_153_64 rfl
theorem d_153_66 : am_code 153 66 = some (.iaload, 1) := by decide +kernel
theorem s_153_66 (cl : am_C) (ls : am_Ls) (i : Int) (k : Nat) (st : List am_V) (N : Nat) (I : Nat → Int → Int) (L : Nat → Int → Int64) : am_go0 cl 153 66 ls (.inl i :: .inr (.inr (some k)) :: st) (am_GS N, am_GR, I, L) = if am_inb (am_GS N) k 0 i = true then am_go0 cl 153 67 ls (.inl (I k i) :: st) (am_GS N, am_GR, I, L) else none := am_rA am_m153 d_153_66 (by decide) rfl k ls st i _ _ I L
theorem d_153_67 : am_code 153 67 = some (.iconst 5, 1) := by decide +kernel
theorem s_153_67 (cl : am_C) (ls : am_Ls) (st : List am_V) (h : am_H) : am_go0 cl 153 67 ls st h = am_go0 cl 153 68 ls (.inl 5 :: st) h := am_rK am_m153 d_153_67 (by decide) rfl _ _ _
theorem d_153_68 : am_code 153 68 = some (.if_icmp .lt 29, 3) := by decide +kernel
theorem s_153_68 (cl : am_C) (ls : am_Ls) (x y : Int) (st : List am_V) (h : am_H) : am_go0 cl 153 68 ls (.inl y :: .inl x :: st) h = if x < y then am_go0 cl 153 97 ls st h else am_go0 cl 153 71 ls st h := (am_rJ0 am_m153 d_153_68 (by decide) rfl x y ls st h).trans (am_ifT (am_cmp_lt x y) _ _)
theorem d_153_71 : am_code 153 71 = some (.aload_n 0, 1) := by decide +kernel
theorem s_153_71 (cl : am_C) (a1 a2 a3 a4 a5 : Option am_V) (x : Nat) (st : List am_V) (h : am_H) : am_go0 cl 153 71 [some (.inr (.inr (some x))), a1, a2, a3, a4, a5] st h = am_go0 cl 153 72 [some (.inr (.inr (some x))), a1, a2, a3, a4, a5] (.inr (.inr (some x)) :: st) h := am_r am_m153 d_153_71 rfl
theorem d_153_72 : am_code 153 72 = some (.getfield 80, 3) := by decide +kernel
theorem s_153_72 (cl : am_C) (ls : am_Ls) (st : List am_V) (N : Nat) (I : Nat → Int → Int) (L : Nat → Int → Int64) : am_go0 cl 153 72 ls (.inr (.inr (some 53)) :: st) (am_GS N, am_GR, I, L) = am_go0 cl 153 75 ls (.inr (.inr (some 76)) :: st) (am_GS N, am_GR, I, L) := am_rG2 am_m153 d_153_72 am_f9080 rfl (gs_53 N) (by decide) gr_53_27 rfl
theorem d_153_75 : am_code 153 75 = some (.aload_n 0, 1) := by decide +kernel
theorem s_153_75 (cl : am_C) (a1 a2 a3 a4 a5 : Option am_V) (x : Nat) (st : List am_V) (h : am_H) : am_go0 cl 153 75 [some (.inr (.inr (some x))), a1, a2, a3, a4, a5] st h = am_go0 cl 153 76 [some (.inr (.inr (some x))), a1, a2, a3, a4, a5] (.inr (.inr (some x)) :: st) h := am_r am_m153 d_153_75 rfl
theorem d_153_76 : am_code 153 76 = some (.getfield 68, 3) := by decide +kernel
theorem s_153_76 (cl : am_C) (ls : am_Ls) (st : List am_V) (N : Nat) (I : Nat → Int → Int) (L : Nat → Int → Int64) : am_go0 cl 153 76 ls (.inr (.inr (some 53)) :: st) (am_GS N, am_GR, I, L) = am_go0 cl 153 79 ls (.inr (.inr (some 72)) :: st) (am_GS N, am_GR, I, L) := am_rG2 am_m153 d_153_76 am_f9068 rfl (gs_53 N) (by decide) gr_53_23 rfl
theorem d_153_79 : am_code 153 79 = some (.iload 5, 2) := by decide +kernel
theorem s_153_79 (cl : am_C) (a0 a1 a2 a3 a4 : Option am_V) (x : Int) (st : List am_V) (h : am_H) : am_go0 cl 153 79 [a0, a1, a2, a3, a4, some (.inl x)] st h = am_go0 cl 153 81 [a0, a1, a2, a3, a4, some (.inl x)] (.inl x :: st) h := am_r am_m153 d_153_79 rfl
theorem d_153_81 : am_code 153 81 = some (.iaload, 1) := by decide +kernel
theorem s_153_81 (cl : am_C) (ls : am_Ls) (i : Int) (k : Nat) (st : List am_V) (N : Nat) (I : Nat → Int → Int) (L : Nat → Int → Int64) : am_go0 cl 153 81 ls (.inl i :: .inr (.inr (some k)) :: st) (am_GS N, am_GR, I, L) = if am_inb (am_GS N) k 0 i = true then am_go0 cl 153 82 ls (.inl (I k i) :: st) (am_GS N, am_GR, I, L) else none := am_rA am_m153 d_153_81 (by decide) rfl k ls st i _ _ I L
theorem d_153_82 : am_code 153 82 = some (.iconst 1, 1) := by decide +kernel
theorem s_153_82 (cl : am_C) (ls : am_Ls) (st : List am_V) (h : am_H) : am_go0 cl 153 82 ls st h = am_go0 cl 153 83 ls (.inl 1 :: st) h := am_rK am_m153 d_153_82 (by decide) rfl _ _ _
theorem d_153_83 : am_code 153 83 = some (.bastore, 1) := by decide +kernel
theorem s_153_83 (cl : am_C) (ls : am_Ls) (i : Int) (v : Int) (k : Nat) (st : List am_V) (N : Nat) (I : Nat → Int → Int) (L : Nat → Int → Int64) : am_go0 cl 153 83 ls (.inl v :: .inl i :: .inr (.inr (some k)) :: st) (am_GS N, am_GR, I, L) = if am_inb (am_GS N) k 2 i = true ∧ (v = 0 ∨ v = 1) then am_go0 cl 153 84 ls st (am_GS N, am_GR, am_uI I k i v, L) else none := am_rSb am_m153 d_153_83 rfl k ls st i v _ _ I L
theorem d_153_84 : am_code 153 84 = some (.aload_n 0, 1) := by decide +kernel
theorem s_153_84 (cl : am_C) (a1 a2 a3 a4 a5 : Option am_V) (x : Nat) (st : List am_V) (h : am_H) : am_go0 cl 153 84 [some (.inr (.inr (some x))), a1, a2, a3, a4, a5] st h = am_go0 cl 153 85 [some (.inr (.inr (some x))), a1, a2, a3, a4, a5] (.inr (.inr (some x)) :: st) h := am_r am_m153 d_153_84 rfl
theorem d_153_85 : am_code 153 85 = some (.getfield 80, 3) := by decide +kernel
theorem s_153_85 (cl : am_C) (ls : am_Ls) (st : List am_V) (N : Nat) (I : Nat → Int → Int) (L : Nat → Int → Int64) : am_go0 cl 153 85 ls (.inr (.inr (some 53)) :: st) (am_GS N, am_GR, I, L) = am_go0 cl 153 88 ls (.inr (.inr (some 76)) :: st) (am_GS N, am_GR, I, L) := am_rG2 am_m153 d_153_85 am_f9080 rfl (gs_53 N) (by decide) gr_53_27 rfl
theorem d_153_88 : am_code 153 88 = some (.aload_n 0, 1) := by decide +kernel
theorem s_153_88 (cl : am_C) (a1 a2 a3 a4 a5 : Option am_V) (x : Nat) (st : List am_V) (h : am_H) : am_go0 cl 153 88 [some (.inr (.inr (some x))), a1, a2, a3, a4, a5] st h = am_go0 cl 153 89 [some (.inr (.inr (some x))), a1, a2, a3, a4, a5] (.inr (.inr (some x)) :: st) h := am_r am_m153 d_153_88 rfl
theorem d_153_89 : am_code 153 89 = some (.getfield 71, 3) := by decide +kernel
theorem s_153_89 (cl : am_C) (ls : am_Ls) (st : List am_V) (N : Nat) (I : Nat → Int → Int) (L : Nat → Int → Int64) : am_go0 cl 153 89 ls (.inr (.inr (some 53)) :: st) (am_GS N, am_GR, I, L) = am_go0 cl 153 92 ls (.inr (.inr (some 73)) :: st) (am_GS N, am_GR, I, L) := am_rG2 am_m153 d_153_89 am_f9071 rfl (gs_53 N) (by decide) gr_53_24 rfl
theorem d_153_92 : am_code 153 92 = some (.iload 5, 2) := by decide +kernel
theorem s_153_92 (cl : am_C) (a0 a1 a2 a3 a4 : Option am_V) (x : Int) (st : List am_V) (h : am_H) : am_go0 cl 153 92 [a0, a1, a2, a3, a4, some (.inl x)] st h = am_go0 cl 153 94 [a0, a1, a2, a3, a4, some (.inl x)] (.inl x :: st) h := am_r am_m153 d_153_92 rfl
theorem d_153_94 : am_code 153 94 = some (.iaload, 1) := by decide +kernel
theorem s_153_94 (cl : am_C) (ls : am_Ls) (i : Int) (k : Nat) (st : List am_V) (N : Nat) (I : Nat → Int → Int) (L : Nat → Int → Int64) : am_go0 cl 153 94 ls (.inl i :: .inr (.inr (some k)) :: st) (am_GS N, am_GR, I, L) = if am_inb (am_GS N) k 0 i = true then am_go0 cl 153 95 ls (.inl (I k i) :: st) (am_GS N, am_GR, I, L) else none := am_rA am_m153 d_153_94 (by decide) rfl k ls st i _ _ I L
theorem d_153_95 : am_code 153 95 = some (.iconst 1, 1) := by decide +kernel
theorem s_153_95 (cl : am_C) (ls : am_Ls) (st : List am_V) (h : am_H) : am_go0 cl 153 95 ls st h = am_go0 cl 153 96 ls (.inl 1 :: st) h := am_rK am_m153 d_153_95 (by decide) rfl _ _ _
theorem d_153_96 : am_code 153 96 = some (.bastore, 1) := by decide +kernel
theorem s_153_96 (cl : am_C) (ls : am_Ls) (i : Int) (v : Int) (k : Nat) (st : List am_V) (N : Nat) (I : Nat → Int → Int) (L : Nat → Int → Int64) : am_go0 cl 153 96 ls (.inl v :: .inl i :: .inr (.inr (some k)) :: st) (am_GS N, am_GR, I, L) = if am_inb (am_GS N) k 2 i = true ∧ (v = 0 ∨ v = 1) then am_go0 cl 153 97 ls st (am_GS N, am_GR, am_uI I k i v, L) else none := am_rSb am_m153 d_153_96 rfl k ls st i v _ _ I L
theorem d_153_97 : am_code 153 97 = some (.aload_n 0, 1) := by decide +kernel
theorem s_153_97 (cl : am_C) (a1 a2 a3 a4 a5 : Option am_V) (x : Nat) (st : List am_V) (h : am_H) : am_go0 cl 153 97 [some (.inr (.inr (some x))), a1, a2, a3, a4, a5] st h = am_go0 cl 153 98 [some (.inr (.inr (some x))), a1, a2, a3, a4, a5] (.inr (.inr (some x)) :: st) h := am_r am_m153 d_153_97 rfl
theorem d_153_98 : am_code 153 98 = some (.getfield 65, 3) := by decide +kernel
theorem s_153_98 (cl : am_C) (ls : am_Ls) (st : List am_V) (N : Nat) (I : Nat → Int → Int) (L : Nat → Int → Int64) : am_go0 cl 153 98 ls (.inr (.inr (some 53)) :: st) (am_GS N, am_GR, I, L) = am_go0 cl 153 101 ls (.inr (.inr (some 71)) :: st) (am_GS N, am_GR, I, L) := am_rG2 am_m153 d_153_98 am_f9065 rfl (gs_53 N) (by decide) gr_53_22 rfl
theorem d_153_101 : am_code 153 101 = some (.iload 5, 2) := by decide +kernel
theorem s_153_101 (cl : am_C) (a0 a1 a2 a3 a4 : Option am_V) (x : Int) (st : List am_V) (h : am_H) : am_go0 cl 153 101 [a0, a1, a2, a3, a4, some (.inl x)] st h = am_go0 cl 153 103 [a0, a1, a2, a3, a4, some (.inl x)] (.inl x :: st) h := am_r am_m153 d_153_101 rfl
theorem d_153_103 : am_code 153 103 = some (.iaload, 1) := by decide +kernel
theorem s_153_103 (cl : am_C) (ls : am_Ls) (i : Int) (k : Nat) (st : List am_V) (N : Nat) (I : Nat → Int → Int) (L : Nat → Int → Int64) : am_go0 cl 153 103 ls (.inl i :: .inr (.inr (some k)) :: st) (am_GS N, am_GR, I, L) = if am_inb (am_GS N) k 0 i = true then am_go0 cl 153 104 ls (.inl (I k i) :: st) (am_GS N, am_GR, I, L) else none := am_rA am_m153 d_153_103 (by decide) rfl k ls st i _ _ I L
theorem d_153_104 : am_code 153 104 = some (.bipush 9, 2) := by decide +kernel
theorem s_153_104 (cl : am_C) (ls : am_Ls) (st : List am_V) (h : am_H) : am_go0 cl 153 104 ls st h = am_go0 cl 153 106 ls (.inl 9 :: st) h := am_rB am_m153 d_153_104 (by decide) rfl _ _ _
theorem d_153_106 : am_code 153 106 = some (.if_icmp .ne 16, 3) := by decide +kernel
theorem s_153_106 (cl : am_C) (ls : am_Ls) (x y : Int) (st : List am_V) (h : am_H) : am_go0 cl 153 106 ls (.inl y :: .inl x :: st) h = if x = y then am_go0 cl 153 109 ls st h else am_go0 cl 153 122 ls st h := (am_rJ0 am_m153 d_153_106 (by decide) rfl x y ls st h).trans (am_ifF ((am_cmp_ne x y).trans Iff.rfl) _ _)
theorem d_153_109 : am_code 153 109 = some (.aload_n 0, 1) := by decide +kernel
theorem s_153_109 (cl : am_C) (a1 a2 a3 a4 a5 : Option am_V) (x : Nat) (st : List am_V) (h : am_H) : am_go0 cl 153 109 [some (.inr (.inr (some x))), a1, a2, a3, a4, a5] st h = am_go0 cl 153 110 [some (.inr (.inr (some x))), a1, a2, a3, a4, a5] (.inr (.inr (some x)) :: st) h := am_r am_m153 d_153_109 rfl
theorem d_153_110 : am_code 153 110 = some (.getfield 80, 3) := by decide +kernel
theorem s_153_110 (cl : am_C) (ls : am_Ls) (st : List am_V) (N : Nat) (I : Nat → Int → Int) (L : Nat → Int → Int64) : am_go0 cl 153 110 ls (.inr (.inr (some 53)) :: st) (am_GS N, am_GR, I, L) = am_go0 cl 153 113 ls (.inr (.inr (some 76)) :: st) (am_GS N, am_GR, I, L) := am_rG2 am_m153 d_153_110 am_f9080 rfl (gs_53 N) (by decide) gr_53_27 rfl
theorem d_153_113 : am_code 153 113 = some (.aload_n 0, 1) := by decide +kernel
theorem s_153_113 (cl : am_C) (a1 a2 a3 a4 a5 : Option am_V) (x : Nat) (st : List am_V) (h : am_H) : am_go0 cl 153 113 [some (.inr (.inr (some x))), a1, a2, a3, a4, a5] st h = am_go0 cl 153 114 [some (.inr (.inr (some x))), a1, a2, a3, a4, a5] (.inr (.inr (some x)) :: st) h := am_r am_m153 d_153_113 rfl
theorem d_153_114 : am_code 153 114 = some (.getfield 74, 3) := by decide +kernel
theorem s_153_114 (cl : am_C) (ls : am_Ls) (st : List am_V) (N : Nat) (I : Nat → Int → Int) (L : Nat → Int → Int64) : am_go0 cl 153 114 ls (.inr (.inr (some 53)) :: st) (am_GS N, am_GR, I, L) = am_go0 cl 153 117 ls (.inr (.inr (some 74)) :: st) (am_GS N, am_GR, I, L) := am_rG2 am_m153 d_153_114 am_f9074 rfl (gs_53 N) (by decide) gr_53_25 rfl
theorem d_153_117 : am_code 153 117 = some (.iload 5, 2) := by decide +kernel
theorem s_153_117 (cl : am_C) (a0 a1 a2 a3 a4 : Option am_V) (x : Int) (st : List am_V) (h : am_H) : am_go0 cl 153 117 [a0, a1, a2, a3, a4, some (.inl x)] st h = am_go0 cl 153 119 [a0, a1, a2, a3, a4, some (.inl x)] (.inl x :: st) h := am_r am_m153 d_153_117 rfl
theorem d_153_119 : am_code 153 119 = some (.iaload, 1) := by decide +kernel
theorem s_153_119 (cl : am_C) (ls : am_Ls) (i : Int) (k : Nat) (st : List am_V) (N : Nat) (I : Nat → Int → Int) (L : Nat → Int → Int64) : am_go0 cl 153 119 ls (.inl i :: .inr (.inr (some k)) :: st) (am_GS N, am_GR, I, L) = if am_inb (am_GS N) k 0 i = true then am_go0 cl 153 120 ls (.inl (I k i) :: st) (am_GS N, am_GR, I, L) else none := am_rA am_m153 d_153_119 (by decide) rfl k ls st i _ _ I L
theorem d_153_120 : am_code 153 120 = some (.iconst 1, 1) := by decide +kernel
theorem s_153_120 (cl : am_C) (ls : am_Ls) (st : List am_V) (h : am_H) : am_go0 cl 153 120 ls st h = am_go0 cl 153 121 ls (.inl 1 :: st) h := am_rK am_m153 d_153_120 (by decide) rfl _ _ _
theorem d_153_121 : am_code 153 121 = some (.bastore, 1) := by decide +kernel
theorem s_153_121 (cl : am_C) (ls : am_Ls) (i : Int) (v : Int) (k : Nat) (st : List am_V) (N : Nat) (I : Nat → Int → Int) (L : Nat → Int → Int64) : am_go0 cl 153 121 ls (.inl v :: .inl i :: .inr (.inr (some k)) :: st) (am_GS N, am_GR, I, L) = if am_inb (am_GS N) k 2 i = true ∧ (v = 0 ∨ v = 1) then am_go0 cl 153 122 ls st (am_GS N, am_GR, am_uI I k i v, L) else none := am_rSb am_m153 d_153_121 rfl k ls st i v _ _ I L
theorem d_153_122 : am_code 153 122 = some (.aload_n 0, 1) := by decide +kernel
theorem s_153_122 (cl : am_C) (a1 a2 a3 a4 a5 : Option am_V) (x : Nat) (st : List am_V) (h : am_H) : am_go0 cl 153 122 [some (.inr (.inr (some x))), a1, a2, a3, a4, a5] st h = am_go0 cl 153 123 [some (.inr (.inr (some x))), a1, a2, a3, a4, a5] (.inr (.inr (some x)) :: st) h := am_r am_m153 d_153_122 rfl
theorem d_153_123 : am_code 153 123 = some (.iload 5, 2) := by decide +kernel
theorem s_153_123 (cl : am_C) (a0 a1 a2 a3 a4 : Option am_V) (x : Int) (st : List am_V) (h : am_H) : am_go0 cl 153 123 [a0, a1, a2, a3, a4, some (.inl x)] st h = am_go0 cl 153 125 [a0, a1, a2, a3, a4, some (.inl x)] (.inl x :: st) h := am_r am_m153 d_153_123 rfl
theorem d_153_125 : am_code 153 125 = some (.iload_n 2, 1) := by decide +kernel
theorem s_153_125 (cl : am_C) (a0 a1 a3 a4 a5 : Option am_V) (x : Int) (st : List am_V) (h : am_H) : am_go0 cl 153 125 [a0, a1, some (.inl x), a3, a4, a5] st h = am_go0 cl 153 126 [a0, a1, some (.inl x), a3, a4, a5] (.inl x :: st) h := am_r am_m153 d_153_125 rfl
theorem d_153_126 : am_code 153 126 = some (.iload_n 3, 1) := by decide +kernel
theorem s_153_126 (cl : am_C) (a0 a1 a2 a4 a5 : Option am_V) (x : Int) (st : List am_V) (h : am_H) : am_go0 cl 153 126 [a0, a1, a2, some (.inl x), a4, a5] st h = am_go0 cl 153 127 [a0, a1, a2, some (.inl x), a4, a5] (.inl x :: st) h := am_r am_m153 d_153_126 rfl
theorem d_153_127 : am_code 153 127 = some (.invokevirtual 202, 3) := by decide +kernel
theorem s_153_127 (cl : am_C) (ls : am_Ls) (x0 : Int) (x1 : Int) (x2 : Int) (N : Nat) (I : Nat → Int → Int) (L : Nat → Int → Int64) : am_go0 cl 153 127 ls [.inl x2, .inl x1, .inl x0, .inr (.inr (some 53))] (am_GS N, am_GR, I, L) = am_bd (cl 154 [.inr (.inr (some 53)), .inl x0, .inl x1, .inl x2] (am_GS N, am_GR, I, L)) (fun v h2 => am_go0 cl 153 130 ls (v.toList ++ []) h2) := am_rV am_m153 d_153_127 am_k9202 rfl am_m154 (gs_53 N) (by decide) (Nat.le_of_ble_eq_true rfl) rfl ls
theorem d_153_130 : am_code 153 130 = some (.istore 4, 2) := by decide +kernel
theorem s_153_130 (cl : am_C) (a0 a1 a2 a3 a4 a5 : Option am_V) (x : Int) (st : List am_V) (h : am_H) : am_go0 cl 153 130 [a0, a1, a2, a3, a4, a5] (.inl x :: st) h = am_go0 cl 153 132 [a0, a1, a2, am_c1 a3, some (.inl x), a5] st h := am_r am_m153 d_153_130 rfl
theorem d_153_132 : am_code 153 132 = some (.iinc 5 (-1), 3) := by decide +kernel
theorem s_153_132 (cl : am_C) (a0 a1 a2 a3 a4 : Option am_V) (x : Int) (st : List am_V) (h : am_H) : am_go0 cl 153 132 [a0, a1, a2, a3, a4, some (.inl x)] st h = am_go0 cl 153 135 [a0, a1, a2, a3, am_c1 a4, some (.inl (am_wr (x + (-1))))] st h := am_r am_m153 d_153_132 rfl
theorem d_153_135 : am_code 153 135 = some (.goto (-95), 3) := by decide +kernel
theorem s_153_135 (cl : am_C) (ls : am_Ls) (st : List am_V) (h : am_H) : am_go0 cl 153 135 ls st h = am_go0 cl 153 40 ls st h := am_rGo am_m153 d_153_135 (by decide) _ _ _
theorem d_153_138 : am_code 153 138 = some (.iload 4, 2) := by decide +kernel
theorem s_153_138 (cl : am_C) (a0 a1 a2 a3 a5 : Option am_V) (x : Int) (st : List am_V) (h : am_H) : am_go0 cl 153 138 [a0, a1, a2, a3, some (.inl x), a5] st h = am_go0 cl 153 140 [a0, a1, a2, a3, some (.inl x), a5] (.inl x :: st) h := am_r am_m153 d_153_138 rfl
theorem d_153_140 : am_code 153 140 = some (.ireturn, 1) := by decide +kernel
theorem s_153_140 (cl : am_C) (ls : am_Ls) (x : Int) (h : am_H) : am_go0 cl 153 140 ls [.inl x] h = if x = 0 ∨ x = 1 then some (some (.inl x), h) else none := am_rRz am_m153 d_153_140 x ls h
theorem e_153 (d : Nat) (t : Nat) (p0 : Int) (p1 : Int) (p2 : Int) (h : am_H) : am_call (d + 1) 153 [.inr (.inr (some t)), .inl p0, .inl p1, .inl p2] h = am_go0 (am_call d) 153 0 [some (.inr (.inr (some t))), some (.inl p0), some (.inl p1), some (.inl p2), none, none] [] h := am_callE am_m153 (Nat.le_of_ble_eq_true rfl) rfl
theorem d_154_0 : am_code 154 0 = some (.aload_n 0, 1) := by decide +kernel
theorem s_154_0 (cl : am_C) (a1 a2 a3 : Option am_V) (x : Nat) (st : List am_V) (h : am_H) : am_go0 cl 154 0 [some (.inr (.inr (some x))), a1, a2, a3] st h = am_go0 cl 154 1 [some (.inr (.inr (some x))), a1, a2, a3] (.inr (.inr (some x)) :: st) h := am_r am_m154 d_154_0 rfl
theorem d_154_1 : am_code 154 1 = some (.getfield 65, 3) := by decide +kernel
theorem s_154_1 (cl : am_C) (ls : am_Ls) (st : List am_V) (N : Nat) (I : Nat → Int → Int) (L : Nat → Int → Int64) : am_go0 cl 154 1 ls (.inr (.inr (some 53)) :: st) (am_GS N, am_GR, I, L) = am_go0 cl 154 4 ls (.inr (.inr (some 71)) :: st) (am_GS N, am_GR, I, L) := am_rG2 am_m154 d_154_1 am_f9065 rfl (gs_53 N) (by decide) gr_53_22 rfl
theorem d_154_4 : am_code 154 4 = some (.iload_n 1, 1) := by decide +kernel
theorem s_154_4 (cl : am_C) (a0 a2 a3 : Option am_V) (x : Int) (st : List am_V) (h : am_H) : am_go0 cl 154 4 [a0, some (.inl x), a2, a3] st h = am_go0 cl 154 5 [a0, some (.inl x), a2, a3] (.inl x :: st) h := am_r am_m154 d_154_4 rfl
theorem d_154_5 : am_code 154 5 = some (.iaload, 1) := by decide +kernel
theorem s_154_5 (cl : am_C) (ls : am_Ls) (i : Int) (k : Nat) (st : List am_V) (N : Nat) (I : Nat → Int → Int) (L : Nat → Int → Int64) : am_go0 cl 154 5 ls (.inl i :: .inr (.inr (some k)) :: st) (am_GS N, am_GR, I, L) = if am_inb (am_GS N) k 0 i = true then am_go0 cl 154 6 ls (.inl (I k i) :: st) (am_GS N, am_GR, I, L) else none := am_rA am_m154 d_154_5 (by decide) rfl k ls st i _ _ I L
theorem d_154_6 : am_code 154 6 = some (.tableswitch 197 1 4 #[30, 51, 106, 156], 30) := by decide +kernel
theorem s_154_6 (cl : am_C) (ls : am_Ls) (x : Int) (st : List am_V) (h : am_H) : am_go0 cl 154 6 ls (.inl x :: st) h = if x = 1 then am_go0 cl 154 36 ls st h else if x = 2 then am_go0 cl 154 57 ls st h else if x = 3 then am_go0 cl 154 112 ls st h else if x = 4 then am_go0 cl 154 162 ls st h else am_go0 cl 154 203 ls st h := by
  by_cases q1 : x = 1
  · subst q1; exact (am_rTs (30) am_m154 d_154_6 (by decide +kernel) (by decide) _ _ _).trans (if_pos rfl).symm
  rw [if_neg q1]
  by_cases q2 : x = 2
  · subst q2; exact (am_rTs (51) am_m154 d_154_6 (by decide +kernel) (by decide) _ _ _).trans (if_pos rfl).symm
  rw [if_neg q2]
  by_cases q3 : x = 3
  · subst q3; exact (am_rTs (106) am_m154 d_154_6 (by decide +kernel) (by decide) _ _ _).trans (if_pos rfl).symm
  rw [if_neg q3]
  by_cases q4 : x = 4
  · subst q4; exact (am_rTs (156) am_m154 d_154_6 (by decide +kernel) (by decide) _ _ _).trans (if_pos rfl).symm
  rw [if_neg q4]
  exact am_rTs (197) am_m154 d_154_6 (am_sw_out (by omega)) (by decide) _ _ _
theorem d_154_36 : am_code 154 36 = some (.aload_n 0, 1) := by decide +kernel
theorem s_154_36 (cl : am_C) (a1 a2 a3 : Option am_V) (x : Nat) (st : List am_V) (h : am_H) : am_go0 cl 154 36 [some (.inr (.inr (some x))), a1, a2, a3] st h = am_go0 cl 154 37 [some (.inr (.inr (some x))), a1, a2, a3] (.inr (.inr (some x)) :: st) h := am_r am_m154 d_154_36 rfl
theorem d_154_37 : am_code 154 37 = some (.getfield 68, 3) := by decide +kernel
theorem s_154_37 (cl : am_C) (ls : am_Ls) (st : List am_V) (N : Nat) (I : Nat → Int → Int) (L : Nat → Int → Int64) : am_go0 cl 154 37 ls (.inr (.inr (some 53)) :: st) (am_GS N, am_GR, I, L) = am_go0 cl 154 40 ls (.inr (.inr (some 72)) :: st) (am_GS N, am_GR, I, L) := am_rG2 am_m154 d_154_37 am_f9068 rfl (gs_53 N) (by decide) gr_53_23 rfl
theorem d_154_40 : am_code 154 40 = some (.iload_n 1, 1) := by decide +kernel
theorem s_154_40 (cl : am_C) (a0 a2 a3 : Option am_V) (x : Int) (st : List am_V) (h : am_H) : am_go0 cl 154 40 [a0, some (.inl x), a2, a3] st h = am_go0 cl 154 41 [a0, some (.inl x), a2, a3] (.inl x :: st) h := am_r am_m154 d_154_40 rfl
theorem d_154_41 : am_code 154 41 = some (.iaload, 1) := by decide +kernel
theorem s_154_41 (cl : am_C) (ls : am_Ls) (i : Int) (k : Nat) (st : List am_V) (N : Nat) (I : Nat → Int → Int) (L : Nat → Int → Int64) : am_go0 cl 154 41 ls (.inl i :: .inr (.inr (some k)) :: st) (am_GS N, am_GR, I, L) = if am_inb (am_GS N) k 0 i = true then am_go0 cl 154 42 ls (.inl (I k i) :: st) (am_GS N, am_GR, I, L) else none := am_rA am_m154 d_154_41 (by decide) rfl k ls st i _ _ I L
theorem d_154_42 : am_code 154 42 = some (.aload_n 0, 1) := by decide +kernel
theorem s_154_42 (cl : am_C) (a1 a2 a3 : Option am_V) (x : Nat) (st : List am_V) (h : am_H) : am_go0 cl 154 42 [some (.inr (.inr (some x))), a1, a2, a3] st h = am_go0 cl 154 43 [some (.inr (.inr (some x))), a1, a2, a3] (.inr (.inr (some x)) :: st) h := am_r am_m154 d_154_42 rfl
theorem d_154_43 : am_code 154 43 = some (.getfield 35, 3) := by decide +kernel
theorem s_154_43 (cl : am_C) (ls : am_Ls) (st : List am_V) (N : Nat) (I : Nat → Int → Int) (L : Nat → Int → Int64) : am_go0 cl 154 43 ls (.inr (.inr (some 53)) :: st) (am_GS N, am_GR, I, L) = am_go0 cl 154 46 ls (.inr (.inr (some 61)) :: st) (am_GS N, am_GR, I, L) := am_rG2 am_m154 d_154_43 am_f9035 rfl (gs_53 N) (by decide) gr_53_10 rfl
theorem d_154_46 : am_code 154 46 = some (.iload_n 2, 1) := by decide +kernel
theorem s_154_46 (cl : am_C) (a0 a1 a3 : Option am_V) (x : Int) (st : List am_V) (h : am_H) : am_go0 cl 154 46 [a0, a1, some (.inl x), a3] st h = am_go0 cl 154 47 [a0, a1, some (.inl x), a3] (.inl x :: st) h := am_r am_m154 d_154_46 rfl
theorem d_154_47 : am_code 154 47 = some (.iaload, 1) := by decide +kernel
theorem s_154_47 (cl : am_C) (ls : am_Ls) (i : Int) (k : Nat) (st : List am_V) (N : Nat) (I : Nat → Int → Int) (L : Nat → Int → Int64) : am_go0 cl 154 47 ls (.inl i :: .inr (.inr (some k)) :: st) (am_GS N, am_GR, I, L) = if am_inb (am_GS N) k 0 i = true then am_go0 cl 154 48 ls (.inl (I k i) :: st) (am_GS N, am_GR, I, L) else none := am_rA am_m154 d_154_47 (by decide) rfl k ls st i _ _ I L
theorem d_154_48 : am_code 154 48 = some (.if_icmp .ge 7, 3) := by decide +kernel
theorem s_154_48 (cl : am_C) (ls : am_Ls) (x y : Int) (st : List am_V) (h : am_H) : am_go0 cl 154 48 ls (.inl y :: .inl x :: st) h = if x < y then am_go0 cl 154 51 ls st h else am_go0 cl 154 55 ls st h := (am_rJ0 am_m154 d_154_48 (by decide) rfl x y ls st h).trans (am_ifF ((am_cmp_ge x y).trans Int.not_lt.symm) _ _)
theorem d_154_51 : am_code 154 51 = some (.iconst 1, 1) := by decide +kernel
theorem s_154_51 (cl : am_C) (ls : am_Ls) (st : List am_V) (h : am_H) : am_go0 cl 154 51 ls st h = am_go0 cl 154 52 ls (.inl 1 :: st) h := am_rK am_m154 d_154_51 (by decide) rfl _ _ _
theorem d_154_52 : am_code 154 52 = some (.goto 4, 3) := by decide +kernel
theorem s_154_52 (cl : am_C) (ls : am_Ls) (st : List am_V) (h : am_H) : am_go0 cl 154 52 ls st h = am_go0 cl 154 56 ls st h := am_rGo am_m154 d_154_52 (by decide) _ _ _
theorem d_154_55 : am_code 154 55 = some (.iconst 0, 1) := by decide +kernel
theorem s_154_55 (cl : am_C) (ls : am_Ls) (st : List am_V) (h : am_H) : am_go0 cl 154 55 ls st h = am_go0 cl 154 56 ls (.inl 0 :: st) h := am_rK am_m154 d_154_55 (by decide) rfl _ _ _
theorem d_154_56 : am_code 154 56 = some (.ireturn, 1) := by decide +kernel
theorem s_154_56 (cl : am_C) (ls : am_Ls) (x : Int) (h : am_H) : am_go0 cl 154 56 ls [.inl x] h = if x = 0 ∨ x = 1 then some (some (.inl x), h) else none := am_rRz am_m154 d_154_56 x ls h
theorem d_154_57 : am_code 154 57 = some (.iload_n 3, 1) := by decide +kernel
theorem s_154_57 (cl : am_C) (a0 a1 a2 : Option am_V) (x : Int) (st : List am_V) (h : am_H) : am_go0 cl 154 57 [a0, a1, a2, some (.inl x)] st h = am_go0 cl 154 58 [a0, a1, a2, some (.inl x)] (.inl x :: st) h := am_r am_m154 d_154_57 rfl
theorem d_154_58 : am_code 154 58 = some (.iconst (-1), 1) := by decide +kernel
theorem s_154_58 (cl : am_C) (ls : am_Ls) (st : List am_V) (h : am_H) : am_go0 cl 154 58 ls st h = am_go0 cl 154 59 ls (.inl (-1) :: st) h := am_rK am_m154 d_154_58 (by decide) rfl _ _ _
theorem d_154_59 : am_code 154 59 = some (.if_icmp .eq 51, 3) := by decide +kernel
theorem s_154_59 (cl : am_C) (ls : am_Ls) (x y : Int) (st : List am_V) (h : am_H) : am_go0 cl 154 59 ls (.inl y :: .inl x :: st) h = if x = y then am_go0 cl 154 110 ls st h else am_go0 cl 154 62 ls st h := (am_rJ0 am_m154 d_154_59 (by decide) rfl x y ls st h).trans (am_ifT (am_cmp_eq x y) _ _)
theorem d_154_62 : am_code 154 62 = some (.aload_n 0, 1) := by decide +kernel
theorem s_154_62 (cl : am_C) (a1 a2 a3 : Option am_V) (x : Nat) (st : List am_V) (h : am_H) : am_go0 cl 154 62 [some (.inr (.inr (some x))), a1, a2, a3] st h = am_go0 cl 154 63 [some (.inr (.inr (some x))), a1, a2, a3] (.inr (.inr (some x)) :: st) h := am_r am_m154 d_154_62 rfl
theorem d_154_63 : am_code 154 63 = some (.getfield 68, 3) := by decide +kernel
theorem s_154_63 (cl : am_C) (ls : am_Ls) (st : List am_V) (N : Nat) (I : Nat → Int → Int) (L : Nat → Int → Int64) : am_go0 cl 154 63 ls (.inr (.inr (some 53)) :: st) (am_GS N, am_GR, I, L) = am_go0 cl 154 66 ls (.inr (.inr (some 72)) :: st) (am_GS N, am_GR, I, L) := am_rG2 am_m154 d_154_63 am_f9068 rfl (gs_53 N) (by decide) gr_53_23 rfl
theorem d_154_66 : am_code 154 66 = some (.iload_n 1, 1) := by decide +kernel
theorem s_154_66 (cl : am_C) (a0 a2 a3 : Option am_V) (x : Int) (st : List am_V) (h : am_H) : am_go0 cl 154 66 [a0, some (.inl x), a2, a3] st h = am_go0 cl 154 67 [a0, some (.inl x), a2, a3] (.inl x :: st) h := am_r am_m154 d_154_66 rfl
theorem d_154_67 : am_code 154 67 = some (.iaload, 1) := by decide +kernel
theorem s_154_67 (cl : am_C) (ls : am_Ls) (i : Int) (k : Nat) (st : List am_V) (N : Nat) (I : Nat → Int → Int) (L : Nat → Int → Int64) : am_go0 cl 154 67 ls (.inl i :: .inr (.inr (some k)) :: st) (am_GS N, am_GR, I, L) = if am_inb (am_GS N) k 0 i = true then am_go0 cl 154 68 ls (.inl (I k i) :: st) (am_GS N, am_GR, I, L) else none := am_rA am_m154 d_154_67 (by decide) rfl k ls st i _ _ I L
theorem d_154_68 : am_code 154 68 = some (.aload_n 0, 1) := by decide +kernel
theorem s_154_68 (cl : am_C) (a1 a2 a3 : Option am_V) (x : Nat) (st : List am_V) (h : am_H) : am_go0 cl 154 68 [some (.inr (.inr (some x))), a1, a2, a3] st h = am_go0 cl 154 69 [some (.inr (.inr (some x))), a1, a2, a3] (.inr (.inr (some x)) :: st) h := am_r am_m154 d_154_68 rfl
theorem d_154_69 : am_code 154 69 = some (.getfield 53, 3) := by decide +kernel
theorem s_154_69 (cl : am_C) (ls : am_Ls) (st : List am_V) (N : Nat) (I : Nat → Int → Int) (L : Nat → Int → Int64) : am_go0 cl 154 69 ls (.inr (.inr (some 53)) :: st) (am_GS N, am_GR, I, L) = am_go0 cl 154 72 ls (.inr (.inr (some 67)) :: st) (am_GS N, am_GR, I, L) := am_rG2 am_m154 d_154_69 am_f9053 rfl (gs_53 N) (by decide) gr_53_17 rfl
theorem d_154_72 : am_code 154 72 = some (.iload_n 3, 1) := by decide +kernel
theorem s_154_72 (cl : am_C) (a0 a1 a2 : Option am_V) (x : Int) (st : List am_V) (h : am_H) : am_go0 cl 154 72 [a0, a1, a2, some (.inl x)] st h = am_go0 cl 154 73 [a0, a1, a2, some (.inl x)] (.inl x :: st) h := am_r am_m154 d_154_72 rfl
theorem d_154_73 : am_code 154 73 = some (.iaload, 1) := by decide +kernel
theorem s_154_73 (cl : am_C) (ls : am_Ls) (i : Int) (k : Nat) (st : List am_V) (N : Nat) (I : Nat → Int → Int) (L : Nat → Int → Int64) : am_go0 cl 154 73 ls (.inl i :: .inr (.inr (some k)) :: st) (am_GS N, am_GR, I, L) = if am_inb (am_GS N) k 0 i = true then am_go0 cl 154 74 ls (.inl (I k i) :: st) (am_GS N, am_GR, I, L) else none := am_rA am_m154 d_154_73 (by decide) rfl k ls st i _ _ I L
theorem d_154_74 : am_code 154 74 = some (.if_icmp .ge 36, 3) := by decide +kernel
theorem s_154_74 (cl : am_C) (ls : am_Ls) (x y : Int) (st : List am_V) (h : am_H) : am_go0 cl 154 74 ls (.inl y :: .inl x :: st) h = if x < y then am_go0 cl 154 77 ls st h else am_go0 cl 154 110 ls st h := (am_rJ0 am_m154 d_154_74 (by decide) rfl x y ls st h).trans (am_ifF ((am_cmp_ge x y).trans Int.not_lt.symm) _ _)
theorem d_154_77 : am_code 154 77 = some (.aload_n 0, 1) := by decide +kernel
theorem s_154_77 (cl : am_C) (a1 a2 a3 : Option am_V) (x : Nat) (st : List am_V) (h : am_H) : am_go0 cl 154 77 [some (.inr (.inr (some x))), a1, a2, a3] st h = am_go0 cl 154 78 [some (.inr (.inr (some x))), a1, a2, a3] (.inr (.inr (some x)) :: st) h := am_r am_m154 d_154_77 rfl
theorem d_154_78 : am_code 154 78 = some (.getfield 71, 3) := by decide +kernel
theorem s_154_78 (cl : am_C) (ls : am_Ls) (st : List am_V) (N : Nat) (I : Nat → Int → Int) (L : Nat → Int → Int64) : am_go0 cl 154 78 ls (.inr (.inr (some 53)) :: st) (am_GS N, am_GR, I, L) = am_go0 cl 154 81 ls (.inr (.inr (some 73)) :: st) (am_GS N, am_GR, I, L) := am_rG2 am_m154 d_154_78 am_f9071 rfl (gs_53 N) (by decide) gr_53_24 rfl
theorem d_154_81 : am_code 154 81 = some (.iload_n 1, 1) := by decide +kernel
theorem s_154_81 (cl : am_C) (a0 a2 a3 : Option am_V) (x : Int) (st : List am_V) (h : am_H) : am_go0 cl 154 81 [a0, some (.inl x), a2, a3] st h = am_go0 cl 154 82 [a0, some (.inl x), a2, a3] (.inl x :: st) h := am_r am_m154 d_154_81 rfl
theorem d_154_82 : am_code 154 82 = some (.iaload, 1) := by decide +kernel
theorem s_154_82 (cl : am_C) (ls : am_Ls) (i : Int) (k : Nat) (st : List am_V) (N : Nat) (I : Nat → Int → Int) (L : Nat → Int → Int64) : am_go0 cl 154 82 ls (.inl i :: .inr (.inr (some k)) :: st) (am_GS N, am_GR, I, L) = if am_inb (am_GS N) k 0 i = true then am_go0 cl 154 83 ls (.inl (I k i) :: st) (am_GS N, am_GR, I, L) else none := am_rA am_m154 d_154_82 (by decide) rfl k ls st i _ _ I L
theorem d_154_83 : am_code 154 83 = some (.aload_n 0, 1) := by decide +kernel
theorem s_154_83 (cl : am_C) (a1 a2 a3 : Option am_V) (x : Nat) (st : List am_V) (h : am_H) : am_go0 cl 154 83 [some (.inr (.inr (some x))), a1, a2, a3] st h = am_go0 cl 154 84 [some (.inr (.inr (some x))), a1, a2, a3] (.inr (.inr (some x)) :: st) h := am_r am_m154 d_154_83 rfl
theorem d_154_84 : am_code 154 84 = some (.getfield 35, 3) := by decide +kernel
theorem s_154_84 (cl : am_C) (ls : am_Ls) (st : List am_V) (N : Nat) (I : Nat → Int → Int) (L : Nat → Int → Int64) : am_go0 cl 154 84 ls (.inr (.inr (some 53)) :: st) (am_GS N, am_GR, I, L) = am_go0 cl 154 87 ls (.inr (.inr (some 61)) :: st) (am_GS N, am_GR, I, L) := am_rG2 am_m154 d_154_84 am_f9035 rfl (gs_53 N) (by decide) gr_53_10 rfl
theorem d_154_87 : am_code 154 87 = some (.aload_n 0, 1) := by decide +kernel
theorem s_154_87 (cl : am_C) (a1 a2 a3 : Option am_V) (x : Nat) (st : List am_V) (h : am_H) : am_go0 cl 154 87 [some (.inr (.inr (some x))), a1, a2, a3] st h = am_go0 cl 154 88 [some (.inr (.inr (some x))), a1, a2, a3] (.inr (.inr (some x)) :: st) h := am_r am_m154 d_154_87 rfl
theorem d_154_88 : am_code 154 88 = some (.getfield 56, 3) := by decide +kernel
theorem s_154_88 (cl : am_C) (ls : am_Ls) (st : List am_V) (N : Nat) (I : Nat → Int → Int) (L : Nat → Int → Int64) : am_go0 cl 154 88 ls (.inr (.inr (some 53)) :: st) (am_GS N, am_GR, I, L) = am_go0 cl 154 91 ls (.inr (.inr (some 68)) :: st) (am_GS N, am_GR, I, L) := am_rG2 am_m154 d_154_88 am_f9056 rfl (gs_53 N) (by decide) gr_53_18 rfl
theorem d_154_91 : am_code 154 91 = some (.iconst 3, 1) := by decide +kernel
theorem s_154_91 (cl : am_C) (ls : am_Ls) (st : List am_V) (h : am_H) : am_go0 cl 154 91 ls st h = am_go0 cl 154 92 ls (.inl 3 :: st) h := am_rK am_m154 d_154_91 (by decide) rfl _ _ _
theorem d_154_92 : am_code 154 92 = some (.iload_n 3, 1) := by decide +kernel
theorem s_154_92 (cl : am_C) (a0 a1 a2 : Option am_V) (x : Int) (st : List am_V) (h : am_H) : am_go0 cl 154 92 [a0, a1, a2, some (.inl x)] st h = am_go0 cl 154 93 [a0, a1, a2, some (.inl x)] (.inl x :: st) h := am_r am_m154 d_154_92 rfl
theorem d_154_93 : am_code 154 93 = some (.imul, 1) := by decide +kernel
theorem s_154_93 (cl : am_C) (ls : am_Ls) (x y : Int) (st : List am_V) (h : am_H) : am_go0 cl 154 93 ls (.inl y :: .inl x :: st) h = am_go0 cl 154 94 ls (.inl (am_wr (x * y)) :: st) h := am_r am_m154 d_154_93 rfl
theorem d_154_94 : am_code 154 94 = some (.aload_n 0, 1) := by decide +kernel
theorem s_154_94 (cl : am_C) (a1 a2 a3 : Option am_V) (x : Nat) (st : List am_V) (h : am_H) : am_go0 cl 154 94 [some (.inr (.inr (some x))), a1, a2, a3] st h = am_go0 cl 154 95 [some (.inr (.inr (some x))), a1, a2, a3] (.inr (.inr (some x)) :: st) h := am_r am_m154 d_154_94 rfl
theorem d_154_95 : am_code 154 95 = some (.getfield 68, 3) := by decide +kernel
theorem s_154_95 (cl : am_C) (ls : am_Ls) (st : List am_V) (N : Nat) (I : Nat → Int → Int) (L : Nat → Int → Int64) : am_go0 cl 154 95 ls (.inr (.inr (some 53)) :: st) (am_GS N, am_GR, I, L) = am_go0 cl 154 98 ls (.inr (.inr (some 72)) :: st) (am_GS N, am_GR, I, L) := am_rG2 am_m154 d_154_95 am_f9068 rfl (gs_53 N) (by decide) gr_53_23 rfl
theorem d_154_98 : am_code 154 98 = some (.iload_n 1, 1) := by decide +kernel
theorem s_154_98 (cl : am_C) (a0 a2 a3 : Option am_V) (x : Int) (st : List am_V) (h : am_H) : am_go0 cl 154 98 [a0, some (.inl x), a2, a3] st h = am_go0 cl 154 99 [a0, some (.inl x), a2, a3] (.inl x :: st) h := am_r am_m154 d_154_98 rfl
theorem d_154_99 : am_code 154 99 = some (.iaload, 1) := by decide +kernel
theorem s_154_99 (cl : am_C) (ls : am_Ls) (i : Int) (k : Nat) (st : List am_V) (N : Nat) (I : Nat → Int → Int) (L : Nat → Int → Int64) : am_go0 cl 154 99 ls (.inl i :: .inr (.inr (some k)) :: st) (am_GS N, am_GR, I, L) = if am_inb (am_GS N) k 0 i = true then am_go0 cl 154 100 ls (.inl (I k i) :: st) (am_GS N, am_GR, I, L) else none := am_rA am_m154 d_154_99 (by decide) rfl k ls st i _ _ I L
theorem d_154_100 : am_code 154 100 = some (.iadd, 1) := by decide +kernel
theorem s_154_100 (cl : am_C) (ls : am_Ls) (x y : Int) (st : List am_V) (h : am_H) : am_go0 cl 154 100 ls (.inl y :: .inl x :: st) h = am_go0 cl 154 101 ls (.inl (am_wr (x + y)) :: st) h := am_r am_m154 d_154_100 rfl
theorem d_154_101 : am_code 154 101 = some (.iaload, 1) := by decide +kernel
theorem s_154_101 (cl : am_C) (ls : am_Ls) (i : Int) (k : Nat) (st : List am_V) (N : Nat) (I : Nat → Int → Int) (L : Nat → Int → Int64) : am_go0 cl 154 101 ls (.inl i :: .inr (.inr (some k)) :: st) (am_GS N, am_GR, I, L) = if am_inb (am_GS N) k 0 i = true then am_go0 cl 154 102 ls (.inl (I k i) :: st) (am_GS N, am_GR, I, L) else none := am_rA am_m154 d_154_101 (by decide) rfl k ls st i _ _ I L
theorem d_154_102 : am_code 154 102 = some (.iaload, 1) := by decide +kernel
theorem s_154_102 (cl : am_C) (ls : am_Ls) (i : Int) (k : Nat) (st : List am_V) (N : Nat) (I : Nat → Int → Int) (L : Nat → Int → Int64) : am_go0 cl 154 102 ls (.inl i :: .inr (.inr (some k)) :: st) (am_GS N, am_GR, I, L) = if am_inb (am_GS N) k 0 i = true then am_go0 cl 154 103 ls (.inl (I k i) :: st) (am_GS N, am_GR, I, L) else none := am_rA am_m154 d_154_102 (by decide) rfl k ls st i _ _ I L
theorem d_154_103 : am_code 154 103 = some (.if_icmp .ge 7, 3) := by decide +kernel
theorem s_154_103 (cl : am_C) (ls : am_Ls) (x y : Int) (st : List am_V) (h : am_H) : am_go0 cl 154 103 ls (.inl y :: .inl x :: st) h = if x < y then am_go0 cl 154 106 ls st h else am_go0 cl 154 110 ls st h := (am_rJ0 am_m154 d_154_103 (by decide) rfl x y ls st h).trans (am_ifF ((am_cmp_ge x y).trans Int.not_lt.symm) _ _)
theorem d_154_106 : am_code 154 106 = some (.iconst 1, 1) := by decide +kernel
theorem s_154_106 (cl : am_C) (ls : am_Ls) (st : List am_V) (h : am_H) : am_go0 cl 154 106 ls st h = am_go0 cl 154 107 ls (.inl 1 :: st) h := am_rK am_m154 d_154_106 (by decide) rfl _ _ _
theorem d_154_107 : am_code 154 107 = some (.goto 4, 3) := by decide +kernel
theorem s_154_107 (cl : am_C) (ls : am_Ls) (st : List am_V) (h : am_H) : am_go0 cl 154 107 ls st h = am_go0 cl 154 111 ls st h := am_rGo am_m154 d_154_107 (by decide) _ _ _
theorem d_154_110 : am_code 154 110 = some (.iconst 0, 1) := by decide +kernel
theorem s_154_110 (cl : am_C) (ls : am_Ls) (st : List am_V) (h : am_H) : am_go0 cl 154 110 ls st h = am_go0 cl 154 111 ls (.inl 0 :: st) h := am_rK am_m154 d_154_110 (by decide) rfl _ _ _
theorem d_154_111 : am_code 154 111 = some (.ireturn, 1) := by decide +kernel
theorem s_154_111 (cl : am_C) (ls : am_Ls) (x : Int) (h : am_H) : am_go0 cl 154 111 ls [.inl x] h = if x = 0 ∨ x = 1 then some (some (.inl x), h) else none := am_rRz am_m154 d_154_111 x ls h
theorem d_154_112 : am_code 154 112 = some (.aload_n 0, 1) := by decide +kernel
theorem s_154_112 (cl : am_C) (a1 a2 a3 : Option am_V) (x : Nat) (st : List am_V) (h : am_H) : am_go0 cl 154 112 [some (.inr (.inr (some x))), a1, a2, a3] st h = am_go0 cl 154 113 [some (.inr (.inr (some x))), a1, a2, a3] (.inr (.inr (some x)) :: st) h := am_r am_m154 d_154_112 rfl
theorem d_154_113 : am_code 154 113 = some (.getfield 68, 3) := by decide +kernel
theorem s_154_113 (cl : am_C) (ls : am_Ls) (st : List am_V) (N : Nat) (I : Nat → Int → Int) (L : Nat → Int → Int64) : am_go0 cl 154 113 ls (.inr (.inr (some 53)) :: st) (am_GS N, am_GR, I, L) = am_go0 cl 154 116 ls (.inr (.inr (some 72)) :: st) (am_GS N, am_GR, I, L) := am_rG2 am_m154 d_154_113 am_f9068 rfl (gs_53 N) (by decide) gr_53_23 rfl
theorem d_154_116 : am_code 154 116 = some (.iload_n 1, 1) := by decide +kernel
theorem s_154_116 (cl : am_C) (a0 a2 a3 : Option am_V) (x : Int) (st : List am_V) (h : am_H) : am_go0 cl 154 116 [a0, some (.inl x), a2, a3] st h = am_go0 cl 154 117 [a0, some (.inl x), a2, a3] (.inl x :: st) h := am_r am_m154 d_154_116 rfl
theorem d_154_117 : am_code 154 117 = some (.iaload, 1) := by decide +kernel
theorem s_154_117 (cl : am_C) (ls : am_Ls) (i : Int) (k : Nat) (st : List am_V) (N : Nat) (I : Nat → Int → Int) (L : Nat → Int → Int64) : am_go0 cl 154 117 ls (.inl i :: .inr (.inr (some k)) :: st) (am_GS N, am_GR, I, L) = if am_inb (am_GS N) k 0 i = true then am_go0 cl 154 118 ls (.inl (I k i) :: st) (am_GS N, am_GR, I, L) else none := am_rA am_m154 d_154_117 (by decide) rfl k ls st i _ _ I L
theorem d_154_118 : am_code 154 118 = some (.aload_n 0, 1) := by decide +kernel
theorem s_154_118 (cl : am_C) (a1 a2 a3 : Option am_V) (x : Nat) (st : List am_V) (h : am_H) : am_go0 cl 154 118 [some (.inr (.inr (some x))), a1, a2, a3] st h = am_go0 cl 154 119 [some (.inr (.inr (some x))), a1, a2, a3] (.inr (.inr (some x)) :: st) h := am_r am_m154 d_154_118 rfl
theorem d_154_119 : am_code 154 119 = some (.getfield 38, 3) := by decide +kernel
theorem s_154_119 (cl : am_C) (ls : am_Ls) (st : List am_V) (N : Nat) (I : Nat → Int → Int) (L : Nat → Int → Int64) : am_go0 cl 154 119 ls (.inr (.inr (some 53)) :: st) (am_GS N, am_GR, I, L) = am_go0 cl 154 122 ls (.inr (.inr (some 62)) :: st) (am_GS N, am_GR, I, L) := am_rG2 am_m154 d_154_119 am_f9038 rfl (gs_53 N) (by decide) gr_53_11 rfl
theorem d_154_122 : am_code 154 122 = some (.iload_n 2, 1) := by decide +kernel
theorem s_154_122 (cl : am_C) (a0 a1 a3 : Option am_V) (x : Int) (st : List am_V) (h : am_H) : am_go0 cl 154 122 [a0, a1, some (.inl x), a3] st h = am_go0 cl 154 123 [a0, a1, some (.inl x), a3] (.inl x :: st) h := am_r am_m154 d_154_122 rfl
theorem d_154_123 : am_code 154 123 = some (.iaload, 1) := by decide +kernel
theorem s_154_123 (cl : am_C) (ls : am_Ls) (i : Int) (k : Nat) (st : List am_V) (N : Nat) (I : Nat → Int → Int) (L : Nat → Int → Int64) : am_go0 cl 154 123 ls (.inl i :: .inr (.inr (some k)) :: st) (am_GS N, am_GR, I, L) = if am_inb (am_GS N) k 0 i = true then am_go0 cl 154 124 ls (.inl (I k i) :: st) (am_GS N, am_GR, I, L) else none := am_rA am_m154 d_154_123 (by decide) rfl k ls st i _ _ I L
theorem d_154_124 : am_code 154 124 = some (.if_icmp .ge 36, 3) := by decide +kernel
theorem s_154_124 (cl : am_C) (ls : am_Ls) (x y : Int) (st : List am_V) (h : am_H) : am_go0 cl 154 124 ls (.inl y :: .inl x :: st) h = if x < y then am_go0 cl 154 127 ls st h else am_go0 cl 154 160 ls st h := (am_rJ0 am_m154 d_154_124 (by decide) rfl x y ls st h).trans (am_ifF ((am_cmp_ge x y).trans Int.not_lt.symm) _ _)
theorem d_154_127 : am_code 154 127 = some (.aload_n 0, 1) := by decide +kernel
theorem s_154_127 (cl : am_C) (a1 a2 a3 : Option am_V) (x : Nat) (st : List am_V) (h : am_H) : am_go0 cl 154 127 [some (.inr (.inr (some x))), a1, a2, a3] st h = am_go0 cl 154 128 [some (.inr (.inr (some x))), a1, a2, a3] (.inr (.inr (some x)) :: st) h := am_r am_m154 d_154_127 rfl
theorem d_154_128 : am_code 154 128 = some (.getfield 71, 3) := by decide +kernel
theorem s_154_128 (cl : am_C) (ls : am_Ls) (st : List am_V) (N : Nat) (I : Nat → Int → Int) (L : Nat → Int → Int64) : am_go0 cl 154 128 ls (.inr (.inr (some 53)) :: st) (am_GS N, am_GR, I, L) = am_go0 cl 154 131 ls (.inr (.inr (some 73)) :: st) (am_GS N, am_GR, I, L) := am_rG2 am_m154 d_154_128 am_f9071 rfl (gs_53 N) (by decide) gr_53_24 rfl
theorem d_154_131 : am_code 154 131 = some (.iload_n 1, 1) := by decide +kernel
theorem s_154_131 (cl : am_C) (a0 a2 a3 : Option am_V) (x : Int) (st : List am_V) (h : am_H) : am_go0 cl 154 131 [a0, some (.inl x), a2, a3] st h = am_go0 cl 154 132 [a0, some (.inl x), a2, a3] (.inl x :: st) h := am_r am_m154 d_154_131 rfl
theorem d_154_132 : am_code 154 132 = some (.iaload, 1) := by decide +kernel
theorem s_154_132 (cl : am_C) (ls : am_Ls) (i : Int) (k : Nat) (st : List am_V) (N : Nat) (I : Nat → Int → Int) (L : Nat → Int → Int64) : am_go0 cl 154 132 ls (.inl i :: .inr (.inr (some k)) :: st) (am_GS N, am_GR, I, L) = if am_inb (am_GS N) k 0 i = true then am_go0 cl 154 133 ls (.inl (I k i) :: st) (am_GS N, am_GR, I, L) else none := am_rA am_m154 d_154_132 (by decide) rfl k ls st i _ _ I L
theorem d_154_133 : am_code 154 133 = some (.aload_n 0, 1) := by decide +kernel
theorem s_154_133 (cl : am_C) (a1 a2 a3 : Option am_V) (x : Nat) (st : List am_V) (h : am_H) : am_go0 cl 154 133 [some (.inr (.inr (some x))), a1, a2, a3] st h = am_go0 cl 154 134 [some (.inr (.inr (some x))), a1, a2, a3] (.inr (.inr (some x)) :: st) h := am_r am_m154 d_154_133 rfl
theorem d_154_134 : am_code 154 134 = some (.getfield 35, 3) := by decide +kernel
theorem s_154_134 (cl : am_C) (ls : am_Ls) (st : List am_V) (N : Nat) (I : Nat → Int → Int) (L : Nat → Int → Int64) : am_go0 cl 154 134 ls (.inr (.inr (some 53)) :: st) (am_GS N, am_GR, I, L) = am_go0 cl 154 137 ls (.inr (.inr (some 61)) :: st) (am_GS N, am_GR, I, L) := am_rG2 am_m154 d_154_134 am_f9035 rfl (gs_53 N) (by decide) gr_53_10 rfl
theorem d_154_137 : am_code 154 137 = some (.aload_n 0, 1) := by decide +kernel
theorem s_154_137 (cl : am_C) (a1 a2 a3 : Option am_V) (x : Nat) (st : List am_V) (h : am_H) : am_go0 cl 154 137 [some (.inr (.inr (some x))), a1, a2, a3] st h = am_go0 cl 154 138 [some (.inr (.inr (some x))), a1, a2, a3] (.inr (.inr (some x)) :: st) h := am_r am_m154 d_154_137 rfl
theorem d_154_138 : am_code 154 138 = some (.getfield 41, 3) := by decide +kernel
theorem s_154_138 (cl : am_C) (ls : am_Ls) (st : List am_V) (N : Nat) (I : Nat → Int → Int) (L : Nat → Int → Int64) : am_go0 cl 154 138 ls (.inr (.inr (some 53)) :: st) (am_GS N, am_GR, I, L) = am_go0 cl 154 141 ls (.inr (.inr (some 63)) :: st) (am_GS N, am_GR, I, L) := am_rG2 am_m154 d_154_138 am_f9041 rfl (gs_53 N) (by decide) gr_53_12 rfl
theorem d_154_141 : am_code 154 141 = some (.iconst 3, 1) := by decide +kernel
theorem s_154_141 (cl : am_C) (ls : am_Ls) (st : List am_V) (h : am_H) : am_go0 cl 154 141 ls st h = am_go0 cl 154 142 ls (.inl 3 :: st) h := am_rK am_m154 d_154_141 (by decide) rfl _ _ _
theorem d_154_142 : am_code 154 142 = some (.iload_n 2, 1) := by decide +kernel
theorem s_154_142 (cl : am_C) (a0 a1 a3 : Option am_V) (x : Int) (st : List am_V) (h : am_H) : am_go0 cl 154 142 [a0, a1, some (.inl x), a3] st h = am_go0 cl 154 143 [a0, a1, some (.inl x), a3] (.inl x :: st) h := am_r am_m154 d_154_142 rfl
theorem d_154_143 : am_code 154 143 = some (.imul, 1) := by decide +kernel
theorem s_154_143 (cl : am_C) (ls : am_Ls) (x y : Int) (st : List am_V) (h : am_H) : am_go0 cl 154 143 ls (.inl y :: .inl x :: st) h = am_go0 cl 154 144 ls (.inl (am_wr (x * y)) :: st) h := am_r am_m154 d_154_143 rfl
theorem d_154_144 : am_code 154 144 = some (.aload_n 0, 1) := by decide +kernel
theorem s_154_144 (cl : am_C) (a1 a2 a3 : Option am_V) (x : Nat) (st : List am_V) (h : am_H) : am_go0 cl 154 144 [some (.inr (.inr (some x))), a1, a2, a3] st h = am_go0 cl 154 145 [some (.inr (.inr (some x))), a1, a2, a3] (.inr (.inr (some x)) :: st) h := am_r am_m154 d_154_144 rfl
theorem d_154_145 : am_code 154 145 = some (.getfield 68, 3) := by decide +kernel
theorem s_154_145 (cl : am_C) (ls : am_Ls) (st : List am_V) (N : Nat) (I : Nat → Int → Int) (L : Nat → Int → Int64) : am_go0 cl 154 145 ls (.inr (.inr (some 53)) :: st) (am_GS N, am_GR, I, L) = am_go0 cl 154 148 ls (.inr (.inr (some 72)) :: st) (am_GS N, am_GR, I, L) := am_rG2 am_m154 d_154_145 am_f9068 rfl (gs_53 N) (by decide) gr_53_23 rfl
theorem d_154_148 : am_code 154 148 = some (.iload_n 1, 1) := by decide +kernel
theorem s_154_148 (cl : am_C) (a0 a2 a3 : Option am_V) (x : Int) (st : List am_V) (h : am_H) : am_go0 cl 154 148 [a0, some (.inl x), a2, a3] st h = am_go0 cl 154 149 [a0, some (.inl x), a2, a3] (.inl x :: st) h := am_r am_m154 d_154_148 rfl
theorem d_154_149 : am_code 154 149 = some (.iaload, 1) := by decide +kernel
theorem s_154_149 (cl : am_C) (ls : am_Ls) (i : Int) (k : Nat) (st : List am_V) (N : Nat) (I : Nat → Int → Int) (L : Nat → Int → Int64) : am_go0 cl 154 149 ls (.inl i :: .inr (.inr (some k)) :: st) (am_GS N, am_GR, I, L) = if am_inb (am_GS N) k 0 i = true then am_go0 cl 154 150 ls (.inl (I k i) :: st) (am_GS N, am_GR, I, L) else none := am_rA am_m154 d_154_149 (by decide) rfl k ls st i _ _ I L
theorem d_154_150 : am_code 154 150 = some (.iadd, 1) := by decide +kernel
theorem s_154_150 (cl : am_C) (ls : am_Ls) (x y : Int) (st : List am_V) (h : am_H) : am_go0 cl 154 150 ls (.inl y :: .inl x :: st) h = am_go0 cl 154 151 ls (.inl (am_wr (x + y)) :: st) h := am_r am_m154 d_154_150 rfl
theorem d_154_151 : am_code 154 151 = some (.iaload, 1) := by decide +kernel
theorem s_154_151 (cl : am_C) (ls : am_Ls) (i : Int) (k : Nat) (st : List am_V) (N : Nat) (I : Nat → Int → Int) (L : Nat → Int → Int64) : am_go0 cl 154 151 ls (.inl i :: .inr (.inr (some k)) :: st) (am_GS N, am_GR, I, L) = if am_inb (am_GS N) k 0 i = true then am_go0 cl 154 152 ls (.inl (I k i) :: st) (am_GS N, am_GR, I, L) else none := am_rA am_m154 d_154_151 (by decide) rfl k ls st i _ _ I L
theorem d_154_152 : am_code 154 152 = some (.iaload, 1) := by decide +kernel
theorem s_154_152 (cl : am_C) (ls : am_Ls) (i : Int) (k : Nat) (st : List am_V) (N : Nat) (I : Nat → Int → Int) (L : Nat → Int → Int64) : am_go0 cl 154 152 ls (.inl i :: .inr (.inr (some k)) :: st) (am_GS N, am_GR, I, L) = if am_inb (am_GS N) k 0 i = true then am_go0 cl 154 153 ls (.inl (I k i) :: st) (am_GS N, am_GR, I, L) else none := am_rA am_m154 d_154_152 (by decide) rfl k ls st i _ _ I L
theorem d_154_153 : am_code 154 153 = some (.if_icmp .ge 7, 3) := by decide +kernel
theorem s_154_153 (cl : am_C) (ls : am_Ls) (x y : Int) (st : List am_V) (h : am_H) : am_go0 cl 154 153 ls (.inl y :: .inl x :: st) h = if x < y then am_go0 cl 154 156 ls st h else am_go0 cl 154 160 ls st h := (am_rJ0 am_m154 d_154_153 (by decide) rfl x y ls st h).trans (am_ifF ((am_cmp_ge x y).trans Int.not_lt.symm) _ _)
theorem d_154_156 : am_code 154 156 = some (.iconst 1, 1) := by decide +kernel
theorem s_154_156 (cl : am_C) (ls : am_Ls) (st : List am_V) (h : am_H) : am_go0 cl 154 156 ls st h = am_go0 cl 154 157 ls (.inl 1 :: st) h := am_rK am_m154 d_154_156 (by decide) rfl _ _ _
theorem d_154_157 : am_code 154 157 = some (.goto 4, 3) := by decide +kernel
theorem s_154_157 (cl : am_C) (ls : am_Ls) (st : List am_V) (h : am_H) : am_go0 cl 154 157 ls st h = am_go0 cl 154 161 ls st h := am_rGo am_m154 d_154_157 (by decide) _ _ _
theorem d_154_160 : am_code 154 160 = some (.iconst 0, 1) := by decide +kernel
theorem s_154_160 (cl : am_C) (ls : am_Ls) (st : List am_V) (h : am_H) : am_go0 cl 154 160 ls st h = am_go0 cl 154 161 ls (.inl 0 :: st) h := am_rK am_m154 d_154_160 (by decide) rfl _ _ _
theorem d_154_161 : am_code 154 161 = some (.ireturn, 1) := by decide +kernel
theorem s_154_161 (cl : am_C) (ls : am_Ls) (x : Int) (h : am_H) : am_go0 cl 154 161 ls [.inl x] h = if x = 0 ∨ x = 1 then some (some (.inl x), h) else none := am_rRz am_m154 d_154_161 x ls h
theorem d_154_162 : am_code 154 162 = some (.aload_n 0, 1) := by decide +kernel
theorem s_154_162 (cl : am_C) (a1 a2 a3 : Option am_V) (x : Nat) (st : List am_V) (h : am_H) : am_go0 cl 154 162 [some (.inr (.inr (some x))), a1, a2, a3] st h = am_go0 cl 154 163 [some (.inr (.inr (some x))), a1, a2, a3] (.inr (.inr (some x)) :: st) h := am_r am_m154 d_154_162 rfl
theorem d_154_163 : am_code 154 163 = some (.getfield 26, 3) := by decide +kernel
theorem s_154_163 (cl : am_C) (ls : am_Ls) (st : List am_V) (N : Nat) (I : Nat → Int → Int) (L : Nat → Int → Int64) : am_go0 cl 154 163 ls (.inr (.inr (some 53)) :: st) (am_GS N, am_GR, I, L) = am_go0 cl 154 166 ls (.inr (.inr (some 58)) :: st) (am_GS N, am_GR, I, L) := am_rG2 am_m154 d_154_163 am_f9026 rfl (gs_53 N) (by decide) gr_53_6 rfl
theorem d_154_166 : am_code 154 166 = some (.aload_n 0, 1) := by decide +kernel
theorem s_154_166 (cl : am_C) (a1 a2 a3 : Option am_V) (x : Nat) (st : List am_V) (h : am_H) : am_go0 cl 154 166 [some (.inr (.inr (some x))), a1, a2, a3] st h = am_go0 cl 154 167 [some (.inr (.inr (some x))), a1, a2, a3] (.inr (.inr (some x)) :: st) h := am_r am_m154 d_154_166 rfl
theorem d_154_167 : am_code 154 167 = some (.getfield 71, 3) := by decide +kernel
theorem s_154_167 (cl : am_C) (ls : am_Ls) (st : List am_V) (N : Nat) (I : Nat → Int → Int) (L : Nat → Int → Int64) : am_go0 cl 154 167 ls (.inr (.inr (some 53)) :: st) (am_GS N, am_GR, I, L) = am_go0 cl 154 170 ls (.inr (.inr (some 73)) :: st) (am_GS N, am_GR, I, L) := am_rG2 am_m154 d_154_167 am_f9071 rfl (gs_53 N) (by decide) gr_53_24 rfl
theorem d_154_170 : am_code 154 170 = some (.iload_n 1, 1) := by decide +kernel
theorem s_154_170 (cl : am_C) (a0 a2 a3 : Option am_V) (x : Int) (st : List am_V) (h : am_H) : am_go0 cl 154 170 [a0, some (.inl x), a2, a3] st h = am_go0 cl 154 171 [a0, some (.inl x), a2, a3] (.inl x :: st) h := am_r am_m154 d_154_170 rfl
theorem d_154_171 : am_code 154 171 = some (.iaload, 1) := by decide +kernel
theorem s_154_171 (cl : am_C) (ls : am_Ls) (i : Int) (k : Nat) (st : List am_V) (N : Nat) (I : Nat → Int → Int) (L : Nat → Int → Int64) : am_go0 cl 154 171 ls (.inl i :: .inr (.inr (some k)) :: st) (am_GS N, am_GR, I, L) = if am_inb (am_GS N) k 0 i = true then am_go0 cl 154 172 ls (.inl (I k i) :: st) (am_GS N, am_GR, I, L) else none := am_rA am_m154 d_154_171 (by decide) rfl k ls st i _ _ I L
theorem d_154_172 : am_code 154 172 = some (.iaload, 1) := by decide +kernel
theorem s_154_172 (cl : am_C) (ls : am_Ls) (i : Int) (k : Nat) (st : List am_V) (N : Nat) (I : Nat → Int → Int) (L : Nat → Int → Int64) : am_go0 cl 154 172 ls (.inl i :: .inr (.inr (some k)) :: st) (am_GS N, am_GR, I, L) = if am_inb (am_GS N) k 0 i = true then am_go0 cl 154 173 ls (.inl (I k i) :: st) (am_GS N, am_GR, I, L) else none := am_rA am_m154 d_154_172 (by decide) rfl k ls st i _ _ I L
theorem d_154_173 : am_code 154 173 = some (.iload_n 3, 1) := by decide +kernel
theorem s_154_173 (cl : am_C) (a0 a1 a2 : Option am_V) (x : Int) (st : List am_V) (h : am_H) : am_go0 cl 154 173 [a0, a1, a2, some (.inl x)] st h = am_go0 cl 154 174 [a0, a1, a2, some (.inl x)] (.inl x :: st) h := am_r am_m154 d_154_173 rfl
theorem d_154_174 : am_code 154 174 = some (.iconst (-1), 1) := by decide +kernel
theorem s_154_174 (cl : am_C) (ls : am_Ls) (st : List am_V) (h : am_H) : am_go0 cl 154 174 ls st h = am_go0 cl 154 175 ls (.inl (-1) :: st) h := am_rK am_m154 d_154_174 (by decide) rfl _ _ _
theorem d_154_175 : am_code 154 175 = some (.if_icmp .ne 7, 3) := by decide +kernel
theorem s_154_175 (cl : am_C) (ls : am_Ls) (x y : Int) (st : List am_V) (h : am_H) : am_go0 cl 154 175 ls (.inl y :: .inl x :: st) h = if x = y then am_go0 cl 154 178 ls st h else am_go0 cl 154 182 ls st h := (am_rJ0 am_m154 d_154_175 (by decide) rfl x y ls st h).trans (am_ifF ((am_cmp_ne x y).trans Iff.rfl) _ _)
theorem d_154_178 : am_code 154 178 = some (.iconst 1, 1) := by decide +kernel
theorem s_154_178 (cl : am_C) (ls : am_Ls) (st : List am_V) (h : am_H) : am_go0 cl 154 178 ls st h = am_go0 cl 154 179 ls (.inl 1 :: st) h := am_rK am_m154 d_154_178 (by decide) rfl _ _ _
theorem d_154_179 : am_code 154 179 = some (.goto 14, 3) := by decide +kernel
theorem s_154_179 (cl : am_C) (ls : am_Ls) (st : List am_V) (h : am_H) : am_go0 cl 154 179 ls st h = am_go0 cl 154 193 ls st h := am_rGo am_m154 d_154_179 (by decide) _ _ _
theorem d_154_182 : am_code 154 182 = some (.aload_n 0, 1) := by decide +kernel
theorem s_154_182 (cl : am_C) (a1 a2 a3 : Option am_V) (x : Nat) (st : List am_V) (h : am_H) : am_go0 cl 154 182 [some (.inr (.inr (some x))), a1, a2, a3] st h = am_go0 cl 154 183 [some (.inr (.inr (some x))), a1, a2, a3] (.inr (.inr (some x)) :: st) h := am_r am_m154 d_154_182 rfl
theorem d_154_183 : am_code 154 183 = some (.getfield 7, 3) := by decide +kernel
theorem s_154_183 (cl : am_C) (ls : am_Ls) (st : List am_V) (N : Nat) (I : Nat → Int → Int) (L : Nat → Int → Int64) : am_go0 cl 154 183 ls (.inr (.inr (some 53)) :: st) (am_GS N, am_GR, I, L) = am_go0 cl 154 186 ls (.inr (.inr (some 54)) :: st) (am_GS N, am_GR, I, L) := am_rG2 am_m154 d_154_183 am_f9007 rfl (gs_53 N) (by decide) gr_53_1 rfl
theorem d_154_186 : am_code 154 186 = some (.aload_n 0, 1) := by decide +kernel
theorem s_154_186 (cl : am_C) (a1 a2 a3 : Option am_V) (x : Nat) (st : List am_V) (h : am_H) : am_go0 cl 154 186 [some (.inr (.inr (some x))), a1, a2, a3] st h = am_go0 cl 154 187 [some (.inr (.inr (some x))), a1, a2, a3] (.inr (.inr (some x)) :: st) h := am_r am_m154 d_154_186 rfl
theorem d_154_187 : am_code 154 187 = some (.getfield 50, 3) := by decide +kernel
theorem s_154_187 (cl : am_C) (ls : am_Ls) (st : List am_V) (N : Nat) (I : Nat → Int → Int) (L : Nat → Int → Int64) : am_go0 cl 154 187 ls (.inr (.inr (some 53)) :: st) (am_GS N, am_GR, I, L) = am_go0 cl 154 190 ls (.inr (.inr (some 66)) :: st) (am_GS N, am_GR, I, L) := am_rG2 am_m154 d_154_187 am_f9050 rfl (gs_53 N) (by decide) gr_53_16 rfl
theorem d_154_190 : am_code 154 190 = some (.iload_n 3, 1) := by decide +kernel
theorem s_154_190 (cl : am_C) (a0 a1 a2 : Option am_V) (x : Int) (st : List am_V) (h : am_H) : am_go0 cl 154 190 [a0, a1, a2, some (.inl x)] st h = am_go0 cl 154 191 [a0, a1, a2, some (.inl x)] (.inl x :: st) h := am_r am_m154 d_154_190 rfl
theorem d_154_191 : am_code 154 191 = some (.iaload, 1) := by decide +kernel
theorem s_154_191 (cl : am_C) (ls : am_Ls) (i : Int) (k : Nat) (st : List am_V) (N : Nat) (I : Nat → Int → Int) (L : Nat → Int → Int64) : am_go0 cl 154 191 ls (.inl i :: .inr (.inr (some k)) :: st) (am_GS N, am_GR, I, L) = if am_inb (am_GS N) k 0 i = true then am_go0 cl 154 192 ls (.inl (I k i) :: st) (am_GS N, am_GR, I, L) else none := am_rA am_m154 d_154_191 (by decide) rfl k ls st i _ _ I L
theorem d_154_192 : am_code 154 192 = some (.iaload, 1) := by decide +kernel
theorem s_154_192 (cl : am_C) (ls : am_Ls) (i : Int) (k : Nat) (st : List am_V) (N : Nat) (I : Nat → Int → Int) (L : Nat → Int → Int64) : am_go0 cl 154 192 ls (.inl i :: .inr (.inr (some k)) :: st) (am_GS N, am_GR, I, L) = if am_inb (am_GS N) k 0 i = true then am_go0 cl 154 193 ls (.inl (I k i) :: st) (am_GS N, am_GR, I, L) else none := am_rA am_m154 d_154_192 (by decide) rfl k ls st i _ _ I L
theorem d_154_193 : am_code 154 193 = some (.ishr, 1) := by decide +kernel
theorem s_154_193 (cl : am_C) (ls : am_Ls) (x y : Int) (st : List am_V) (h : am_H) : am_go0 cl 154 193 ls (.inl y :: .inl x :: st) h = am_go0 cl 154 194 ls (.inl ((Int32.ofInt x >>> (Int32.ofInt y &&& 31)).toInt) :: st) h := am_r am_m154 d_154_193 rfl
theorem d_154_194 : am_code 154 194 = some (.ifCond .ne 7, 3) := by decide +kernel
theorem s_154_194 (cl : am_C) (ls : am_Ls) (x : Int) (st : List am_V) (h : am_H) : am_go0 cl 154 194 ls (.inl x :: st) h = if x = 0 then am_go0 cl 154 197 ls st h else am_go0 cl 154 201 ls st h := (am_rJ1 am_m154 d_154_194 (by decide) rfl x ls st h).trans (am_ifF ((am_cmp_ne x 0).trans Iff.rfl) _ _)
theorem d_154_197 : am_code 154 197 = some (.iconst 1, 1) := by decide +kernel
theorem s_154_197 (cl : am_C) (ls : am_Ls) (st : List am_V) (h : am_H) : am_go0 cl 154 197 ls st h = am_go0 cl 154 198 ls (.inl 1 :: st) h := am_rK am_m154 d_154_197 (by decide) rfl _ _ _
theorem d_154_198 : am_code 154 198 = some (.goto 4, 3) := by decide +kernel
theorem s_154_198 (cl : am_C) (ls : am_Ls) (st : List am_V) (h : am_H) : am_go0 cl 154 198 ls st h = am_go0 cl 154 202 ls st h := am_rGo am_m154 d_154_198 (by decide) _ _ _
theorem d_154_201 : am_code 154 201 = some (.iconst 0, 1) := by decide +kernel
theorem s_154_201 (cl : am_C) (ls : am_Ls) (st : List am_V) (h : am_H) : am_go0 cl 154 201 ls st h = am_go0 cl 154 202 ls (.inl 0 :: st) h := am_rK am_m154 d_154_201 (by decide) rfl _ _ _
theorem d_154_202 : am_code 154 202 = some (.ireturn, 1) := by decide +kernel
theorem s_154_202 (cl : am_C) (ls : am_Ls) (x : Int) (h : am_H) : am_go0 cl 154 202 ls [.inl x] h = if x = 0 ∨ x = 1 then some (some (.inl x), h) else none := am_rRz am_m154 d_154_202 x ls h
theorem d_154_203 : am_code 154 203 = some (.iconst 1, 1) := by decide +kernel
theorem s_154_203 (cl : am_C) (ls : am_Ls) (st : List am_V) (h : am_H) : am_go0 cl 154 203 ls st h = am_go0 cl 154 204 ls (.inl 1 :: st) h := am_rK am_m154 d_154_203 (by decide) rfl _ _ _
theorem d_154_204 : am_code 154 204 = some (.ireturn, 1) := by decide +kernel
theorem s_154_204 (cl : am_C) (ls : am_Ls) (x : Int) (h : am_H) : am_go0 cl 154 204 ls [.inl x] h = if x = 0 ∨ x = 1 then some (some (.inl x), h) else none := am_rRz am_m154 d_154_204 x ls h
theorem e_154 (d : Nat) (t : Nat) (p0 : Int) (p1 : Int) (p2 : Int) (h : am_H) : am_call (d + 1) 154 [.inr (.inr (some t)), .inl p0, .inl p1, .inl p2] h = am_go0 (am_call d) 154 0 [some (.inr (.inr (some t))), some (.inl p0), some (.inl p1), some (.inl p2)] [] h := am_callE am_m154 (Nat.le_of_ble_eq_true rfl) rfl
theorem d_155_0 : am_code 155 0 = some (.aload_n 0, 1) := by decide +kernel
theorem s_155_0 (cl : am_C) (a1 a2 a3 : Option am_V) (x : Nat) (st : List am_V) (h : am_H) : am_go0 cl 155 0 [some (.inr (.inr (some x))), a1, a2, a3] st h = am_go0 cl 155 1 [some (.inr (.inr (some x))), a1, a2, a3] (.inr (.inr (some x)) :: st) h := am_r am_m155 d_155_0 rfl
theorem d_155_1 : am_code 155 1 = some (.iload_n 1, 1) := by decide +kernel
theorem s_155_1 (cl : am_C) (a0 a2 a3 : Option am_V) (x : Int) (st : List am_V) (h : am_H) : am_go0 cl 155 1 [a0, some (.inl x), a2, a3] st h = am_go0 cl 155 2 [a0, some (.inl x), a2, a3] (.inl x :: st) h := am_r am_m155 d_155_1 rfl
theorem d_155_2 : am_code 155 2 = some (.invokevirtual 179, 3) := by decide +kernel
theorem s_155_2 (cl : am_C) (ls : am_Ls) (x0 : Int) (N : Nat) (I : Nat → Int → Int) (L : Nat → Int → Int64) : am_go0 cl 155 2 ls [.inl x0, .inr (.inr (some 53))] (am_GS N, am_GR, I, L) = am_bd (cl 143 [.inr (.inr (some 53)), .inl x0] (am_GS N, am_GR, I, L)) (fun v h2 => am_go0 cl 155 5 ls (v.toList ++ []) h2) := am_rV am_m155 d_155_2 am_k9179 rfl am_m143 (gs_53 N) (by decide) (Nat.le_of_ble_eq_true rfl) rfl ls
theorem d_155_5 : am_code 155 5 = some (.ifCond .eq 42, 3) := by decide +kernel
theorem s_155_5 (cl : am_C) (ls : am_Ls) (x : Int) (st : List am_V) (h : am_H) : am_go0 cl 155 5 ls (.inl x :: st) h = if x = 0 then am_go0 cl 155 47 ls st h else am_go0 cl 155 8 ls st h := (am_rJ1 am_m155 d_155_5 (by decide) rfl x ls st h).trans (am_ifT (am_cmp_eq x 0) _ _)
theorem d_155_8 : am_code 155 8 = some (.iload_n 2, 1) := by decide +kernel
theorem s_155_8 (cl : am_C) (a0 a1 a3 : Option am_V) (x : Int) (st : List am_V) (h : am_H) : am_go0 cl 155 8 [a0, a1, some (.inl x), a3] st h = am_go0 cl 155 9 [a0, a1, some (.inl x), a3] (.inl x :: st) h := am_r am_m155 d_155_8 rfl
theorem d_155_9 : am_code 155 9 = some (.iconst 0, 1) := by decide +kernel
theorem s_155_9 (cl : am_C) (ls : am_Ls) (st : List am_V) (h : am_H) : am_go0 cl 155 9 ls st h = am_go0 cl 155 10 ls (.inl 0 :: st) h := am_rK am_m155 d_155_9 (by decide) rfl _ _ _
theorem d_155_10 : am_code 155 10 = some (.aload_n 0, 1) := by decide +kernel
theorem s_155_10 (cl : am_C) (a1 a2 a3 : Option am_V) (x : Nat) (st : List am_V) (h : am_H) : am_go0 cl 155 10 [some (.inr (.inr (some x))), a1, a2, a3] st h = am_go0 cl 155 11 [some (.inr (.inr (some x))), a1, a2, a3] (.inr (.inr (some x)) :: st) h := am_r am_m155 d_155_10 rfl
theorem d_155_11 : am_code 155 11 = some (.getfield 35, 3) := by decide +kernel
theorem s_155_11 (cl : am_C) (ls : am_Ls) (st : List am_V) (N : Nat) (I : Nat → Int → Int) (L : Nat → Int → Int64) : am_go0 cl 155 11 ls (.inr (.inr (some 53)) :: st) (am_GS N, am_GR, I, L) = am_go0 cl 155 14 ls (.inr (.inr (some 61)) :: st) (am_GS N, am_GR, I, L) := am_rG2 am_m155 d_155_11 am_f9035 rfl (gs_53 N) (by decide) gr_53_10 rfl
theorem d_155_14 : am_code 155 14 = some (.iload_n 1, 1) := by decide +kernel
theorem s_155_14 (cl : am_C) (a0 a2 a3 : Option am_V) (x : Int) (st : List am_V) (h : am_H) : am_go0 cl 155 14 [a0, some (.inl x), a2, a3] st h = am_go0 cl 155 15 [a0, some (.inl x), a2, a3] (.inl x :: st) h := am_r am_m155 d_155_14 rfl
theorem d_155_15 : am_code 155 15 = some (.iaload, 1) := by decide +kernel
theorem s_155_15 (cl : am_C) (ls : am_Ls) (i : Int) (k : Nat) (st : List am_V) (N : Nat) (I : Nat → Int → Int) (L : Nat → Int → Int64) : am_go0 cl 155 15 ls (.inl i :: .inr (.inr (some k)) :: st) (am_GS N, am_GR, I, L) = if am_inb (am_GS N) k 0 i = true then am_go0 cl 155 16 ls (.inl (I k i) :: st) (am_GS N, am_GR, I, L) else none := am_rA am_m155 d_155_15 (by decide) rfl k ls st i _ _ I L
theorem d_155_16 : am_code 155 16 = some (.iconst 1, 1) := by decide +kernel
theorem s_155_16 (cl : am_C) (ls : am_Ls) (st : List am_V) (h : am_H) : am_go0 cl 155 16 ls st h = am_go0 cl 155 17 ls (.inl 1 :: st) h := am_rK am_m155 d_155_16 (by decide) rfl _ _ _
theorem d_155_17 : am_code 155 17 = some (.isub, 1) := by decide +kernel
theorem s_155_17 (cl : am_C) (ls : am_Ls) (x y : Int) (st : List am_V) (h : am_H) : am_go0 cl 155 17 ls (.inl y :: .inl x :: st) h = am_go0 cl 155 18 ls (.inl (am_wr (x - y)) :: st) h := am_r am_m155 d_155_17 rfl
theorem d_155_18 : am_code 155 18 = some (.invokestatic 151, 3) := by decide +kernel
theorem s_155_18 (cl : am_C) (ls : am_Ls) (x0 : Int) (x1 : Int) (x2 : Int) (h : am_H) : am_go0 cl 155 18 ls [.inl x2, .inl x1, .inl x0] h = am_bd (cl 135 [.inl x0, .inl x1, .inl x2] h) (fun v h2 => am_go0 cl 155 21 ls (v.toList ++ []) h2) := am_rVs am_m155 d_155_18 am_k9151 rfl (Nat.le_of_ble_eq_true rfl) rfl ls
theorem d_155_21 : am_code 155 21 = some (.ifCond .eq 26, 3) := by decide +kernel
theorem s_155_21 (cl : am_C) (ls : am_Ls) (x : Int) (st : List am_V) (h : am_H) : am_go0 cl 155 21 ls (.inl x :: st) h = if x = 0 then am_go0 cl 155 47 ls st h else am_go0 cl 155 24 ls st h := (am_rJ1 am_m155 d_155_21 (by decide) rfl x ls st h).trans (am_ifT (am_cmp_eq x 0) _ _)
theorem d_155_24 : am_code 155 24 = some (.iload_n 3, 1) := by decide +kernel
theorem s_155_24 (cl : am_C) (a0 a1 a2 : Option am_V) (x : Int) (st : List am_V) (h : am_H) : am_go0 cl 155 24 [a0, a1, a2, some (.inl x)] st h = am_go0 cl 155 25 [a0, a1, a2, some (.inl x)] (.inl x :: st) h := am_r am_m155 d_155_24 rfl
theorem d_155_25 : am_code 155 25 = some (.iconst (-1), 1) := by decide +kernel
theorem s_155_25 (cl : am_C) (ls : am_Ls) (st : List am_V) (h : am_H) : am_go0 cl 155 25 ls st h = am_go0 cl 155 26 ls (.inl (-1) :: st) h := am_rK am_m155 d_155_25 (by decide) rfl _ _ _
theorem d_155_26 : am_code 155 26 = some (.if_icmp .eq 24, 3) := by decide +kernel
theorem s_155_26 (cl : am_C) (ls : am_Ls) (x y : Int) (st : List am_V) (h : am_H) : am_go0 cl 155 26 ls (.inl y :: .inl x :: st) h = if x = y then am_go0 cl 155 50 ls st h else am_go0 cl 155 29 ls st h := (am_rJ0 am_m155 d_155_26 (by decide) rfl x y ls st h).trans (am_ifT (am_cmp_eq x y) _ _)
theorem d_155_29 : am_code 155 29 = some (.aload_n 0, 1) := by decide +kernel
theorem s_155_29 (cl : am_C) (a1 a2 a3 : Option am_V) (x : Nat) (st : List am_V) (h : am_H) : am_go0 cl 155 29 [some (.inr (.inr (some x))), a1, a2, a3] st h = am_go0 cl 155 30 [some (.inr (.inr (some x))), a1, a2, a3] (.inr (.inr (some x)) :: st) h := am_r am_m155 d_155_29 rfl
theorem d_155_30 : am_code 155 30 = some (.iload_n 3, 1) := by decide +kernel
theorem s_155_30 (cl : am_C) (a0 a1 a2 : Option am_V) (x : Int) (st : List am_V) (h : am_H) : am_go0 cl 155 30 [a0, a1, a2, some (.inl x)] st h = am_go0 cl 155 31 [a0, a1, a2, some (.inl x)] (.inl x :: st) h := am_r am_m155 d_155_30 rfl
theorem d_155_31 : am_code 155 31 = some (.invokevirtual 192, 3) := by decide +kernel
theorem s_155_31 (cl : am_C) (ls : am_Ls) (x0 : Int) (N : Nat) (I : Nat → Int → Int) (L : Nat → Int → Int64) : am_go0 cl 155 31 ls [.inl x0, .inr (.inr (some 53))] (am_GS N, am_GR, I, L) = am_bd (cl 150 [.inr (.inr (some 53)), .inl x0] (am_GS N, am_GR, I, L)) (fun v h2 => am_go0 cl 155 34 ls (v.toList ++ []) h2) := am_rV am_m155 d_155_31 am_k9192 rfl am_m150 (gs_53 N) (by decide) (Nat.le_of_ble_eq_true rfl) rfl ls
theorem d_155_34 : am_code 155 34 = some (.ifCond .eq 13, 3) := by decide +kernel
theorem s_155_34 (cl : am_C) (ls : am_Ls) (x : Int) (st : List am_V) (h : am_H) : am_go0 cl 155 34 ls (.inl x :: st) h = if x = 0 then am_go0 cl 155 47 ls st h else am_go0 cl 155 37 ls st h := (am_rJ1 am_m155 d_155_34 (by decide) rfl x ls st h).trans (am_ifT (am_cmp_eq x 0) _ _)
theorem d_155_37 : am_code 155 37 = some (.aload_n 0, 1) := by decide +kernel
theorem s_155_37 (cl : am_C) (a1 a2 a3 : Option am_V) (x : Nat) (st : List am_V) (h : am_H) : am_go0 cl 155 37 [some (.inr (.inr (some x))), a1, a2, a3] st h = am_go0 cl 155 38 [some (.inr (.inr (some x))), a1, a2, a3] (.inr (.inr (some x)) :: st) h := am_r am_m155 d_155_37 rfl
theorem d_155_38 : am_code 155 38 = some (.iload_n 3, 1) := by decide +kernel
theorem s_155_38 (cl : am_C) (a0 a1 a2 : Option am_V) (x : Int) (st : List am_V) (h : am_H) : am_go0 cl 155 38 [a0, a1, a2, some (.inl x)] st h = am_go0 cl 155 39 [a0, a1, a2, some (.inl x)] (.inl x :: st) h := am_r am_m155 d_155_38 rfl
theorem d_155_39 : am_code 155 39 = some (.iload_n 1, 1) := by decide +kernel
theorem s_155_39 (cl : am_C) (a0 a2 a3 : Option am_V) (x : Int) (st : List am_V) (h : am_H) : am_go0 cl 155 39 [a0, some (.inl x), a2, a3] st h = am_go0 cl 155 40 [a0, some (.inl x), a2, a3] (.inl x :: st) h := am_r am_m155 d_155_39 rfl
theorem d_155_40 : am_code 155 40 = some (.iconst (-1), 1) := by decide +kernel
theorem s_155_40 (cl : am_C) (ls : am_Ls) (st : List am_V) (h : am_H) : am_go0 cl 155 40 ls st h = am_go0 cl 155 41 ls (.inl (-1) :: st) h := am_rK am_m155 d_155_40 (by decide) rfl _ _ _
theorem d_155_41 : am_code 155 41 = some (.invokevirtual 205, 3) := by decide +kernel
theorem s_155_41 (cl : am_C) (ls : am_Ls) (x0 : Int) (x1 : Int) (x2 : Int) (N : Nat) (I : Nat → Int → Int) (L : Nat → Int → Int64) : am_go0 cl 155 41 ls [.inl x2, .inl x1, .inl x0, .inr (.inr (some 53))] (am_GS N, am_GR, I, L) = am_bd (cl 153 [.inr (.inr (some 53)), .inl x0, .inl x1, .inl x2] (am_GS N, am_GR, I, L)) (fun v h2 => am_go0 cl 155 44 ls (v.toList ++ []) h2) := am_rV am_m155 d_155_41 am_k9205 rfl am_m153 (gs_53 N) (by decide) (Nat.le_of_ble_eq_true rfl) rfl ls
theorem d_155_44 : am_code 155 44 = some (.ifCond .ne 6, 3) := by decide +kernel
theorem s_155_44 (cl : am_C) (ls : am_Ls) (x : Int) (st : List am_V) (h : am_H) : am_go0 cl 155 44 ls (.inl x :: st) h = if x = 0 then am_go0 cl 155 47 ls st h else am_go0 cl 155 50 ls st h := (am_rJ1 am_m155 d_155_44 (by decide) rfl x ls st h).trans (am_ifF ((am_cmp_ne x 0).trans Iff.rfl) _ _)
theorem d_155_47 : am_code 155 47 = some (.bipush (-2), 2) := by decide +kernel
theorem s_155_47 (cl : am_C) (ls : am_Ls) (st : List am_V) (h : am_H) : am_go0 cl 155 47 ls st h = am_go0 cl 155 49 ls (.inl (-2) :: st) h := am_rB am_m155 d_155_47 (by decide) rfl _ _ _
theorem d_155_49 : am_code 155 49 = some (.ireturn, 1) := by decide +kernel
theorem s_155_49 (cl : am_C) (ls : am_Ls) (x : Int) (h : am_H) : am_go0 cl 155 49 ls [.inl x] h = some (some (.inl x), h) := am_rE am_m155 d_155_49 rfl
theorem d_155_50 : am_code 155 50 = some (.aload_n 0, 1) := by decide +kernel
theorem s_155_50 (cl : am_C) (a1 a2 a3 : Option am_V) (x : Nat) (st : List am_V) (h : am_H) : am_go0 cl 155 50 [some (.inr (.inr (some x))), a1, a2, a3] st h = am_go0 cl 155 51 [some (.inr (.inr (some x))), a1, a2, a3] (.inr (.inr (some x)) :: st) h := am_r am_m155 d_155_50 rfl
theorem d_155_51 : am_code 155 51 = some (.getfield 44, 3) := by decide +kernel
theorem s_155_51 (cl : am_C) (ls : am_Ls) (st : List am_V) (N : Nat) (I : Nat → Int → Int) (L : Nat → Int → Int64) : am_go0 cl 155 51 ls (.inr (.inr (some 53)) :: st) (am_GS N, am_GR, I, L) = am_go0 cl 155 54 ls (.inr (.inr (some 64)) :: st) (am_GS N, am_GR, I, L) := am_rG2 am_m155 d_155_51 am_f9044 rfl (gs_53 N) (by decide) gr_53_13 rfl
theorem d_155_54 : am_code 155 54 = some (.iconst 4, 1) := by decide +kernel
theorem s_155_54 (cl : am_C) (ls : am_Ls) (st : List am_V) (h : am_H) : am_go0 cl 155 54 ls st h = am_go0 cl 155 55 ls (.inl 4 :: st) h := am_rK am_m155 d_155_54 (by decide) rfl _ _ _
theorem d_155_55 : am_code 155 55 = some (.iload_n 1, 1) := by decide +kernel
theorem s_155_55 (cl : am_C) (a0 a2 a3 : Option am_V) (x : Int) (st : List am_V) (h : am_H) : am_go0 cl 155 55 [a0, some (.inl x), a2, a3] st h = am_go0 cl 155 56 [a0, some (.inl x), a2, a3] (.inl x :: st) h := am_r am_m155 d_155_55 rfl
theorem d_155_56 : am_code 155 56 = some (.imul, 1) := by decide +kernel
theorem s_155_56 (cl : am_C) (ls : am_Ls) (x y : Int) (st : List am_V) (h : am_H) : am_go0 cl 155 56 ls (.inl y :: .inl x :: st) h = am_go0 cl 155 57 ls (.inl (am_wr (x * y)) :: st) h := am_r am_m155 d_155_56 rfl
theorem d_155_57 : am_code 155 57 = some (.iload_n 2, 1) := by decide +kernel
theorem s_155_57 (cl : am_C) (a0 a1 a3 : Option am_V) (x : Int) (st : List am_V) (h : am_H) : am_go0 cl 155 57 [a0, a1, some (.inl x), a3] st h = am_go0 cl 155 58 [a0, a1, some (.inl x), a3] (.inl x :: st) h := am_r am_m155 d_155_57 rfl
theorem d_155_58 : am_code 155 58 = some (.iadd, 1) := by decide +kernel
theorem s_155_58 (cl : am_C) (ls : am_Ls) (x y : Int) (st : List am_V) (h : am_H) : am_go0 cl 155 58 ls (.inl y :: .inl x :: st) h = am_go0 cl 155 59 ls (.inl (am_wr (x + y)) :: st) h := am_r am_m155 d_155_58 rfl
theorem d_155_59 : am_code 155 59 = some (.iload_n 3, 1) := by decide +kernel
theorem s_155_59 (cl : am_C) (a0 a1 a2 : Option am_V) (x : Int) (st : List am_V) (h : am_H) : am_go0 cl 155 59 [a0, a1, a2, some (.inl x)] st h = am_go0 cl 155 60 [a0, a1, a2, some (.inl x)] (.inl x :: st) h := am_r am_m155 d_155_59 rfl
theorem d_155_60 : am_code 155 60 = some (.iastore, 1) := by decide +kernel
theorem s_155_60 (cl : am_C) (ls : am_Ls) (i : Int) (v : Int) (k : Nat) (st : List am_V) (N : Nat) (I : Nat → Int → Int) (L : Nat → Int → Int64) : am_go0 cl 155 60 ls (.inl v :: .inl i :: .inr (.inr (some k)) :: st) (am_GS N, am_GR, I, L) = if am_inb (am_GS N) k 0 i = true then am_go0 cl 155 61 ls st (am_GS N, am_GR, am_uI I k i v, L) else none := am_rS am_m155 d_155_60 rfl k ls st i v _ _ I L
theorem d_155_61 : am_code 155 61 = some (.aload_n 0, 1) := by decide +kernel
theorem s_155_61 (cl : am_C) (a1 a2 a3 : Option am_V) (x : Nat) (st : List am_V) (h : am_H) : am_go0 cl 155 61 [some (.inr (.inr (some x))), a1, a2, a3] st h = am_go0 cl 155 62 [some (.inr (.inr (some x))), a1, a2, a3] (.inr (.inr (some x)) :: st) h := am_r am_m155 d_155_61 rfl
theorem d_155_62 : am_code 155 62 = some (.iconst 1, 1) := by decide +kernel
theorem s_155_62 (cl : am_C) (ls : am_Ls) (st : List am_V) (h : am_H) : am_go0 cl 155 62 ls st h = am_go0 cl 155 63 ls (.inl 1 :: st) h := am_rK am_m155 d_155_62 (by decide) rfl _ _ _
theorem d_155_63 : am_code 155 63 = some (.invokevirtual 175, 3) := by decide +kernel
theorem s_155_63 (cl : am_C) (ls : am_Ls) (x0 : Int) (N : Nat) (I : Nat → Int → Int) (L : Nat → Int → Int64) : am_go0 cl 155 63 ls [.inl x0, .inr (.inr (some 53))] (am_GS N, am_GR, I, L) = am_bd (cl 141 [.inr (.inr (some 53)), .inl x0] (am_GS N, am_GR, I, L)) (fun v h2 => am_go0 cl 155 66 ls (v.toList ++ []) h2) := am_rV am_m155 d_155_63 am_k9175 rfl am_m141 (gs_53 N) (by decide) (Nat.le_of_ble_eq_true rfl) rfl ls
theorem d_155_66 : am_code 155 66 = some (.ireturn, 1) := by decide +kernel
theorem s_155_66 (cl : am_C) (ls : am_Ls) (x : Int) (h : am_H) : am_go0 cl 155 66 ls [.inl x] h = some (some (.inl x), h) := am_rE am_m155 d_155_66 rfl
theorem e_155 (d : Nat) (t : Nat) (p0 : Int) (p1 : Int) (p2 : Int) (h : am_H) : am_call (d + 1) 155 [.inr (.inr (some t)), .inl p0, .inl p1, .inl p2] h = am_go0 (am_call d) 155 0 [some (.inr (.inr (some t))), some (.inl p0), some (.inl p1), some (.inl p2)] [] h := am_callE am_m155 (Nat.le_of_ble_eq_true rfl) rfl
theorem d_156_0 : am_code 156 0 = some (.aload_n 0, 1) := by decide +kernel
theorem s_156_0 (cl : am_C) (a1 a2 : Option am_V) (x : Nat) (st : List am_V) (h : am_H) : am_go0 cl 156 0 [some (.inr (.inr (some x))), a1, a2] st h = am_go0 cl 156 1 [some (.inr (.inr (some x))), a1, a2] (.inr (.inr (some x)) :: st) h := am_r am_m156 d_156_0 rfl
theorem d_156_1 : am_code 156 1 = some (.iload_n 1, 1) := by decide +kernel
theorem s_156_1 (cl : am_C) (a0 a2 : Option am_V) (x : Int) (st : List am_V) (h : am_H) : am_go0 cl 156 1 [a0, some (.inl x), a2] st h = am_go0 cl 156 2 [a0, some (.inl x), a2] (.inl x :: st) h := am_r am_m156 d_156_1 rfl
theorem d_156_2 : am_code 156 2 = some (.invokevirtual 179, 3) := by decide +kernel
theorem s_156_2 (cl : am_C) (ls : am_Ls) (x0 : Int) (N : Nat) (I : Nat → Int → Int) (L : Nat → Int → Int64) : am_go0 cl 156 2 ls [.inl x0, .inr (.inr (some 53))] (am_GS N, am_GR, I, L) = am_bd (cl 143 [.inr (.inr (some 53)), .inl x0] (am_GS N, am_GR, I, L)) (fun v h2 => am_go0 cl 156 5 ls (v.toList ++ []) h2) := am_rV am_m156 d_156_2 am_k9179 rfl am_m143 (gs_53 N) (by decide) (Nat.le_of_ble_eq_true rfl) rfl ls
theorem d_156_5 : am_code 156 5 = some (.ifCond .eq 29, 3) := by decide +kernel
theorem s_156_5 (cl : am_C) (ls : am_Ls) (x : Int) (st : List am_V) (h : am_H) : am_go0 cl 156 5 ls (.inl x :: st) h = if x = 0 then am_go0 cl 156 34 ls st h else am_go0 cl 156 8 ls st h := (am_rJ1 am_m156 d_156_5 (by decide) rfl x ls st h).trans (am_ifT (am_cmp_eq x 0) _ _)
theorem d_156_8 : am_code 156 8 = some (.aload_n 0, 1) := by decide +kernel
theorem s_156_8 (cl : am_C) (a1 a2 : Option am_V) (x : Nat) (st : List am_V) (h : am_H) : am_go0 cl 156 8 [some (.inr (.inr (some x))), a1, a2] st h = am_go0 cl 156 9 [some (.inr (.inr (some x))), a1, a2] (.inr (.inr (some x)) :: st) h := am_r am_m156 d_156_8 rfl
theorem d_156_9 : am_code 156 9 = some (.iload_n 2, 1) := by decide +kernel
theorem s_156_9 (cl : am_C) (a0 a1 : Option am_V) (x : Int) (st : List am_V) (h : am_H) : am_go0 cl 156 9 [a0, a1, some (.inl x)] st h = am_go0 cl 156 10 [a0, a1, some (.inl x)] (.inl x :: st) h := am_r am_m156 d_156_9 rfl
theorem d_156_10 : am_code 156 10 = some (.invokevirtual 158, 3) := by decide +kernel
theorem s_156_10 (cl : am_C) (ls : am_Ls) (x0 : Int) (N : Nat) (I : Nat → Int → Int) (L : Nat → Int → Int64) : am_go0 cl 156 10 ls [.inl x0, .inr (.inr (some 53))] (am_GS N, am_GR, I, L) = am_bd (cl 137 [.inr (.inr (some 53)), .inl x0] (am_GS N, am_GR, I, L)) (fun v h2 => am_go0 cl 156 13 ls (v.toList ++ []) h2) := am_rV am_m156 d_156_10 am_k9158 rfl am_m137 (gs_53 N) (by decide) (Nat.le_of_ble_eq_true rfl) rfl ls
theorem d_156_13 : am_code 156 13 = some (.ifCond .eq 21, 3) := by decide +kernel
theorem s_156_13 (cl : am_C) (ls : am_Ls) (x : Int) (st : List am_V) (h : am_H) : am_go0 cl 156 13 ls (.inl x :: st) h = if x = 0 then am_go0 cl 156 34 ls st h else am_go0 cl 156 16 ls st h := (am_rJ1 am_m156 d_156_13 (by decide) rfl x ls st h).trans (am_ifT (am_cmp_eq x 0) _ _)
theorem d_156_16 : am_code 156 16 = some (.aload_n 0, 1) := by decide +kernel
theorem s_156_16 (cl : am_C) (a1 a2 : Option am_V) (x : Nat) (st : List am_V) (h : am_H) : am_go0 cl 156 16 [some (.inr (.inr (some x))), a1, a2] st h = am_go0 cl 156 17 [some (.inr (.inr (some x))), a1, a2] (.inr (.inr (some x)) :: st) h := am_r am_m156 d_156_16 rfl
theorem d_156_17 : am_code 156 17 = some (.getfield 26, 3) := by decide +kernel
theorem s_156_17 (cl : am_C) (ls : am_Ls) (st : List am_V) (N : Nat) (I : Nat → Int → Int) (L : Nat → Int → Int64) : am_go0 cl 156 17 ls (.inr (.inr (some 53)) :: st) (am_GS N, am_GR, I, L) = am_go0 cl 156 20 ls (.inr (.inr (some 58)) :: st) (am_GS N, am_GR, I, L) := am_rG2 am_m156 d_156_17 am_f9026 rfl (gs_53 N) (by decide) gr_53_6 rfl
theorem d_156_20 : am_code 156 20 = some (.iload_n 2, 1) := by decide +kernel
theorem s_156_20 (cl : am_C) (a0 a1 : Option am_V) (x : Int) (st : List am_V) (h : am_H) : am_go0 cl 156 20 [a0, a1, some (.inl x)] st h = am_go0 cl 156 21 [a0, a1, some (.inl x)] (.inl x :: st) h := am_r am_m156 d_156_20 rfl
theorem d_156_21 : am_code 156 21 = some (.iaload, 1) := by decide +kernel
theorem s_156_21 (cl : am_C) (ls : am_Ls) (i : Int) (k : Nat) (st : List am_V) (N : Nat) (I : Nat → Int → Int) (L : Nat → Int → Int64) : am_go0 cl 156 21 ls (.inl i :: .inr (.inr (some k)) :: st) (am_GS N, am_GR, I, L) = if am_inb (am_GS N) k 0 i = true then am_go0 cl 156 22 ls (.inl (I k i) :: st) (am_GS N, am_GR, I, L) else none := am_rA am_m156 d_156_21 (by decide) rfl k ls st i _ _ I L
theorem d_156_22 : am_code 156 22 = some (.ifCond .ne 12, 3) := by decide +kernel
theorem s_156_22 (cl : am_C) (ls : am_Ls) (x : Int) (st : List am_V) (h : am_H) : am_go0 cl 156 22 ls (.inl x :: st) h = if x = 0 then am_go0 cl 156 25 ls st h else am_go0 cl 156 34 ls st h := (am_rJ1 am_m156 d_156_22 (by decide) rfl x ls st h).trans (am_ifF ((am_cmp_ne x 0).trans Iff.rfl) _ _)
theorem d_156_25 : am_code 156 25 = some (.aload_n 0, 1) := by decide +kernel
theorem s_156_25 (cl : am_C) (a1 a2 : Option am_V) (x : Nat) (st : List am_V) (h : am_H) : am_go0 cl 156 25 [some (.inr (.inr (some x))), a1, a2] st h = am_go0 cl 156 26 [some (.inr (.inr (some x))), a1, a2] (.inr (.inr (some x)) :: st) h := am_r am_m156 d_156_25 rfl
theorem d_156_26 : am_code 156 26 = some (.iload_n 1, 1) := by decide +kernel
theorem s_156_26 (cl : am_C) (a0 a2 : Option am_V) (x : Int) (st : List am_V) (h : am_H) : am_go0 cl 156 26 [a0, some (.inl x), a2] st h = am_go0 cl 156 27 [a0, some (.inl x), a2] (.inl x :: st) h := am_r am_m156 d_156_26 rfl
theorem d_156_27 : am_code 156 27 = some (.iload_n 2, 1) := by decide +kernel
theorem s_156_27 (cl : am_C) (a0 a1 : Option am_V) (x : Int) (st : List am_V) (h : am_H) : am_go0 cl 156 27 [a0, a1, some (.inl x)] st h = am_go0 cl 156 28 [a0, a1, some (.inl x)] (.inl x :: st) h := am_r am_m156 d_156_27 rfl
theorem d_156_28 : am_code 156 28 = some (.invokevirtual 220, 3) := by decide +kernel
theorem s_156_28 (cl : am_C) (ls : am_Ls) (x0 : Int) (x1 : Int) (N : Nat) (I : Nat → Int → Int) (L : Nat → Int → Int64) : am_go0 cl 156 28 ls [.inl x1, .inl x0, .inr (.inr (some 53))] (am_GS N, am_GR, I, L) = am_bd (cl 157 [.inr (.inr (some 53)), .inl x0, .inl x1] (am_GS N, am_GR, I, L)) (fun v h2 => am_go0 cl 156 31 ls (v.toList ++ []) h2) := am_rV am_m156 d_156_28 am_k9220 rfl am_m157 (gs_53 N) (by decide) (Nat.le_of_ble_eq_true rfl) rfl ls
theorem d_156_31 : am_code 156 31 = some (.goto 5, 3) := by decide +kernel
theorem s_156_31 (cl : am_C) (ls : am_Ls) (st : List am_V) (h : am_H) : am_go0 cl 156 31 ls st h = am_go0 cl 156 36 ls st h := am_rGo am_m156 d_156_31 (by decide) _ _ _
theorem d_156_34 : am_code 156 34 = some (.bipush (-2), 2) := by decide +kernel
theorem s_156_34 (cl : am_C) (ls : am_Ls) (st : List am_V) (h : am_H) : am_go0 cl 156 34 ls st h = am_go0 cl 156 36 ls (.inl (-2) :: st) h := am_rB am_m156 d_156_34 (by decide) rfl _ _ _
theorem d_156_36 : am_code 156 36 = some (.ireturn, 1) := by decide +kernel
theorem s_156_36 (cl : am_C) (ls : am_Ls) (x : Int) (h : am_H) : am_go0 cl 156 36 ls [.inl x] h = some (some (.inl x), h) := am_rE am_m156 d_156_36 rfl
theorem e_156 (d : Nat) (t : Nat) (p0 : Int) (p1 : Int) (h : am_H) : am_call (d + 1) 156 [.inr (.inr (some t)), .inl p0, .inl p1] h = am_go0 (am_call d) 156 0 [some (.inr (.inr (some t))), some (.inl p0), some (.inl p1)] [] h := am_callE am_m156 (Nat.le_of_ble_eq_true rfl) rfl
theorem d_157_0 : am_code 157 0 = some (.aload_n 0, 1) := by decide +kernel
theorem s_157_0 (cl : am_C) (a1 a2 a3 a4 a5 a6 a7 a8 a9 a10 a11 a12 a13 : Option am_V) (x : Nat) (st : List am_V) (h : am_H) : am_go0 cl 157 0 [some (.inr (.inr (some x))), a1, a2, a3, a4, a5, a6, a7, a8, a9, a10, a11, a12, a13] st h = am_go0 cl 157 1 [some (.inr (.inr (some x))), a1, a2, a3, a4, a5, a6, a7, a8, a9, a10, a11, a12, a13] (.inr (.inr (some x)) :: st) h := am_r am_m157 d_157_0 rfl
theorem d_157_1 : am_code 157 1 = some (.iload_n 1, 1) := by decide +kernel
theorem s_157_1 (cl : am_C) (a0 a2 a3 a4 a5 a6 a7 a8 a9 a10 a11 a12 a13 : Option am_V) (x : Int) (st : List am_V) (h : am_H) : am_go0 cl 157 1 [a0, some (.inl x), a2, a3, a4, a5, a6, a7, a8, a9, a10, a11, a12, a13] st h = am_go0 cl 157 2 [a0, some (.inl x), a2, a3, a4, a5, a6, a7, a8, a9, a10, a11, a12, a13] (.inl x :: st) h := am_r am_m157 d_157_1 rfl
theorem d_157_2 : am_code 157 2 = some (.iload_n 2, 1) := by decide +kernel
theorem s_157_2 (cl : am_C) (a0 a1 a3 a4 a5 a6 a7 a8 a9 a10 a11 a12 a13 : Option am_V) (x : Int) (st : List am_V) (h : am_H) : am_go0 cl 157 2 [a0, a1, some (.inl x), a3, a4, a5, a6, a7, a8, a9, a10, a11, a12, a13] st h = am_go0 cl 157 3 [a0, a1, some (.inl x), a3, a4, a5, a6, a7, a8, a9, a10, a11, a12, a13] (.inl x :: st) h := am_r am_m157 d_157_2 rfl
theorem d_157_3 : am_code 157 3 = some (.invokevirtual 208, 3) := by decide +kernel
theorem s_157_3 (cl : am_C) (ls : am_Ls) (x0 : Int) (x1 : Int) (N : Nat) (I : Nat → Int → Int) (L : Nat → Int → Int64) : am_go0 cl 157 3 ls [.inl x1, .inl x0, .inr (.inr (some 53))] (am_GS N, am_GR, I, L) = am_bd (cl 158 [.inr (.inr (some 53)), .inl x0, .inl x1] (am_GS N, am_GR, I, L)) (fun v h2 => am_go0 cl 157 6 ls (v.toList ++ []) h2) := am_rV am_m157 d_157_3 am_k9208 rfl am_m158 (gs_53 N) (by decide) (Nat.le_of_ble_eq_true rfl) rfl ls
theorem d_157_6 : am_code 157 6 = some (.istore_n 3, 1) := by decide +kernel
theorem s_157_6 (cl : am_C) (a0 a1 a2 a3 a4 a5 a6 a7 a8 a9 a10 a11 a12 a13 : Option am_V) (x : Int) (st : List am_V) (h : am_H) : am_go0 cl 157 6 [a0, a1, a2, a3, a4, a5, a6, a7, a8, a9, a10, a11, a12, a13] (.inl x :: st) h = am_go0 cl 157 7 [a0, a1, am_c1 a2, some (.inl x), a4, a5, a6, a7, a8, a9, a10, a11, a12, a13] st h := am_r am_m157 d_157_6 rfl
theorem d_157_7 : am_code 157 7 = some (.iload_n 3, 1) := by decide +kernel
theorem s_157_7 (cl : am_C) (a0 a1 a2 a4 a5 a6 a7 a8 a9 a10 a11 a12 a13 : Option am_V) (x : Int) (st : List am_V) (h : am_H) : am_go0 cl 157 7 [a0, a1, a2, some (.inl x), a4, a5, a6, a7, a8, a9, a10, a11, a12, a13] st h = am_go0 cl 157 8 [a0, a1, a2, some (.inl x), a4, a5, a6, a7, a8, a9, a10, a11, a12, a13] (.inl x :: st) h := am_r am_m157 d_157_7 rfl
theorem d_157_8 : am_code 157 8 = some (.iconst (-1), 1) := by decide +kernel
theorem s_157_8 (cl : am_C) (ls : am_Ls) (st : List am_V) (h : am_H) : am_go0 cl 157 8 ls st h = am_go0 cl 157 9 ls (.inl (-1) :: st) h := am_rK am_m157 d_157_8 (by decide) rfl _ _ _
theorem d_157_9 : am_code 157 9 = some (.if_icmp .eq 5, 3) := by decide +kernel
theorem s_157_9 (cl : am_C) (ls : am_Ls) (x y : Int) (st : List am_V) (h : am_H) : am_go0 cl 157 9 ls (.inl y :: .inl x :: st) h = if x = y then am_go0 cl 157 14 ls st h else am_go0 cl 157 12 ls st h := (am_rJ0 am_m157 d_157_9 (by decide) rfl x y ls st h).trans (am_ifT (am_cmp_eq x y) _ _)
theorem d_157_12 : am_code 157 12 = some (.iload_n 3, 1) := by decide +kernel
theorem s_157_12 (cl : am_C) (a0 a1 a2 a4 a5 a6 a7 a8 a9 a10 a11 a12 a13 : Option am_V) (x : Int) (st : List am_V) (h : am_H) : am_go0 cl 157 12 [a0, a1, a2, some (.inl x), a4, a5, a6, a7, a8, a9, a10, a11, a12, a13] st h = am_go0 cl 157 13 [a0, a1, a2, some (.inl x), a4, a5, a6, a7, a8, a9, a10, a11, a12, a13] (.inl x :: st) h := am_r am_m157 d_157_12 rfl
theorem d_157_13 : am_code 157 13 = some (.ireturn, 1) := by decide +kernel
theorem s_157_13 (cl : am_C) (ls : am_Ls) (x : Int) (h : am_H) : am_go0 cl 157 13 ls [.inl x] h = some (some (.inl x), h) := am_rE am_m157 d_157_13 rfl
theorem d_157_14 : am_code 157 14 = some (.aload_n 0, 1) := by decide +kernel
theorem s_157_14 (cl : am_C) (a1 a2 a3 a4 a5 a6 a7 a8 a9 a10 a11 a12 a13 : Option am_V) (x : Nat) (st : List am_V) (h : am_H) : am_go0 cl 157 14 [some (.inr (.inr (some x))), a1, a2, a3, a4, a5, a6, a7, a8, a9, a10, a11, a12, a13] st h = am_go0 cl 157 15 [some (.inr (.inr (some x))), a1, a2, a3, a4, a5, a6, a7, a8, a9, a10, a11, a12, a13] (.inr (.inr (some x)) :: st) h := am_r am_m157 d_157_14 rfl
theorem d_157_15 : am_code 157 15 = some (.getfield 172, 3) := by decide +kernel
theorem s_157_15 (cl : am_C) (ls : am_Ls) (st : List am_V) (N : Nat) (I : Nat → Int → Int) (L : Nat → Int → Int64) : am_go0 cl 157 15 ls (.inr (.inr (some 53)) :: st) (am_GS N, am_GR, I, L) = am_go0 cl 157 18 ls (.inl (I 53 28) :: st) (am_GS N, am_GR, I, L) := am_rG0 am_m157 d_157_15 am_f9172 rfl (gs_53 N) (by decide) rfl
theorem d_157_18 : am_code 157 18 = some (.istore 4, 2) := by decide +kernel
theorem s_157_18 (cl : am_C) (a0 a1 a2 a3 a4 a5 a6 a7 a8 a9 a10 a11 a12 a13 : Option am_V) (x : Int) (st : List am_V) (h : am_H) : am_go0 cl 157 18 [a0, a1, a2, a3, a4, a5, a6, a7, a8, a9, a10, a11, a12, a13] (.inl x :: st) h = am_go0 cl 157 20 [a0, a1, a2, am_c1 a3, some (.inl x), a5, a6, a7, a8, a9, a10, a11, a12, a13] st h := am_r am_m157 d_157_18 rfl
theorem d_157_20 : am_code 157 20 = some (.aload_n 0, 1) := by decide +kernel
theorem s_157_20 (cl : am_C) (a1 a2 a3 a4 a5 a6 a7 a8 a9 a10 a11 a12 a13 : Option am_V) (x : Nat) (st : List am_V) (h : am_H) : am_go0 cl 157 20 [some (.inr (.inr (some x))), a1, a2, a3, a4, a5, a6, a7, a8, a9, a10, a11, a12, a13] st h = am_go0 cl 157 21 [some (.inr (.inr (some x))), a1, a2, a3, a4, a5, a6, a7, a8, a9, a10, a11, a12, a13] (.inr (.inr (some x)) :: st) h := am_r am_m157 d_157_20 rfl
theorem d_157_21 : am_code 157 21 = some (.iload_n 1, 1) := by decide +kernel
theorem s_157_21 (cl : am_C) (a0 a2 a3 a4 a5 a6 a7 a8 a9 a10 a11 a12 a13 : Option am_V) (x : Int) (st : List am_V) (h : am_H) : am_go0 cl 157 21 [a0, some (.inl x), a2, a3, a4, a5, a6, a7, a8, a9, a10, a11, a12, a13] st h = am_go0 cl 157 22 [a0, some (.inl x), a2, a3, a4, a5, a6, a7, a8, a9, a10, a11, a12, a13] (.inl x :: st) h := am_r am_m157 d_157_21 rfl
theorem d_157_22 : am_code 157 22 = some (.iload_n 2, 1) := by decide +kernel
theorem s_157_22 (cl : am_C) (a0 a1 a3 a4 a5 a6 a7 a8 a9 a10 a11 a12 a13 : Option am_V) (x : Int) (st : List am_V) (h : am_H) : am_go0 cl 157 22 [a0, a1, some (.inl x), a3, a4, a5, a6, a7, a8, a9, a10, a11, a12, a13] st h = am_go0 cl 157 23 [a0, a1, some (.inl x), a3, a4, a5, a6, a7, a8, a9, a10, a11, a12, a13] (.inl x :: st) h := am_r am_m157 d_157_22 rfl
theorem d_157_23 : am_code 157 23 = some (.invokevirtual 211, 3) := by decide +kernel
theorem s_157_23 (cl : am_C) (ls : am_Ls) (x0 : Int) (x1 : Int) (N : Nat) (I : Nat → Int → Int) (L : Nat → Int → Int64) : am_go0 cl 157 23 ls [.inl x1, .inl x0, .inr (.inr (some 53))] (am_GS N, am_GR, I, L) = am_bd (cl 159 [.inr (.inr (some 53)), .inl x0, .inl x1] (am_GS N, am_GR, I, L)) (fun v h2 => am_go0 cl 157 26 ls (v.toList ++ []) h2) := am_rV am_m157 d_157_23 am_k9211 rfl am_m159 (gs_53 N) (by decide) (Nat.le_of_ble_eq_true rfl) rfl ls
theorem d_157_26 : am_code 157 26 = some (.istore 5, 2) := by decide +kernel
theorem s_157_26 (cl : am_C) (a0 a1 a2 a3 a4 a5 a6 a7 a8 a9 a10 a11 a12 a13 : Option am_V) (x : Int) (st : List am_V) (h : am_H) : am_go0 cl 157 26 [a0, a1, a2, a3, a4, a5, a6, a7, a8, a9, a10, a11, a12, a13] (.inl x :: st) h = am_go0 cl 157 28 [a0, a1, a2, a3, am_c1 a4, some (.inl x), a6, a7, a8, a9, a10, a11, a12, a13] st h := am_r am_m157 d_157_26 rfl
theorem d_157_28 : am_code 157 28 = some (.iload 5, 2) := by decide +kernel
theorem s_157_28 (cl : am_C) (a0 a1 a2 a3 a4 a6 a7 a8 a9 a10 a11 a12 a13 : Option am_V) (x : Int) (st : List am_V) (h : am_H) : am_go0 cl 157 28 [a0, a1, a2, a3, a4, some (.inl x), a6, a7, a8, a9, a10, a11, a12, a13] st h = am_go0 cl 157 30 [a0, a1, a2, a3, a4, some (.inl x), a6, a7, a8, a9, a10, a11, a12, a13] (.inl x :: st) h := am_r am_m157 d_157_28 rfl
theorem d_157_30 : am_code 157 30 = some (.ifCond .ge 6, 3) := by decide +kernel
theorem s_157_30 (cl : am_C) (ls : am_Ls) (x : Int) (st : List am_V) (h : am_H) : am_go0 cl 157 30 ls (.inl x :: st) h = if x < 0 then am_go0 cl 157 33 ls st h else am_go0 cl 157 36 ls st h := (am_rJ1 am_m157 d_157_30 (by decide) rfl x ls st h).trans (am_ifF ((am_cmp_ge x 0).trans Int.not_lt.symm) _ _)
theorem d_157_33 : am_code 157 33 = some (.iload 5, 2) := by decide +kernel
theorem s_157_33 (cl : am_C) (a0 a1 a2 a3 a4 a6 a7 a8 a9 a10 a11 a12 a13 : Option am_V) (x : Int) (st : List am_V) (h : am_H) : am_go0 cl 157 33 [a0, a1, a2, a3, a4, some (.inl x), a6, a7, a8, a9, a10, a11, a12, a13] st h = am_go0 cl 157 35 [a0, a1, a2, a3, a4, some (.inl x), a6, a7, a8, a9, a10, a11, a12, a13] (.inl x :: st) h := am_r am_m157 d_157_33 rfl
theorem d_157_35 : am_code 157 35 = some (.ireturn, 1) := by decide +kernel
theorem s_157_35 (cl : am_C) (ls : am_Ls) (x : Int) (h : am_H) : am_go0 cl 157 35 ls [.inl x] h = some (some (.inl x), h) := am_rE am_m157 d_157_35 rfl
theorem d_157_36 : am_code 157 36 = some (.iconst 1, 1) := by decide +kernel
theorem s_157_36 (cl : am_C) (ls : am_Ls) (st : List am_V) (h : am_H) : am_go0 cl 157 36 ls st h = am_go0 cl 157 37 ls (.inl 1 :: st) h := am_rK am_m157 d_157_36 (by decide) rfl _ _ _
theorem d_157_37 : am_code 157 37 = some (.istore 6, 2) := by decide +kernel
theorem s_157_37 (cl : am_C) (a0 a1 a2 a3 a4 a5 a6 a7 a8 a9 a10 a11 a12 a13 : Option am_V) (x : Int) (st : List am_V) (h : am_H) : am_go0 cl 157 37 [a0, a1, a2, a3, a4, a5, a6, a7, a8, a9, a10, a11, a12, a13] (.inl x :: st) h = am_go0 cl 157 39 [a0, a1, a2, a3, a4, am_c1 a5, some (.inl x), a7, a8, a9, a10, a11, a12, a13] st h := am_r am_m157 d_157_37 rfl
theorem d_157_39 : am_code 157 39 = some (.aload_n 0, 1) := by decide +kernel
theorem s_157_39 (cl : am_C) (a1 a2 a3 a4 a5 a6 a7 a8 a9 a10 a11 a12 a13 : Option am_V) (x : Nat) (st : List am_V) (h : am_H) : am_go0 cl 157 39 [some (.inr (.inr (some x))), a1, a2, a3, a4, a5, a6, a7, a8, a9, a10, a11, a12, a13] st h = am_go0 cl 157 40 [some (.inr (.inr (some x))), a1, a2, a3, a4, a5, a6, a7, a8, a9, a10, a11, a12, a13] (.inr (.inr (some x)) :: st) h := am_r am_m157 d_157_39 rfl
theorem d_157_40 : am_code 157 40 = some (.getfield 115, 3) := by decide +kernel
theorem s_157_40 (cl : am_C) (ls : am_Ls) (st : List am_V) (N : Nat) (I : Nat → Int → Int) (L : Nat → Int → Int64) : am_go0 cl 157 40 ls (.inr (.inr (some 53)) :: st) (am_GS N, am_GR, I, L) = am_go0 cl 157 43 ls (.inr (.inr (some 85)) :: st) (am_GS N, am_GR, I, L) := am_rG2 am_m157 d_157_40 am_f9115 rfl (gs_53 N) (by decide) gr_53_39 rfl
theorem d_157_43 : am_code 157 43 = some (.iconst 0, 1) := by decide +kernel
theorem s_157_43 (cl : am_C) (ls : am_Ls) (st : List am_V) (h : am_H) : am_go0 cl 157 43 ls st h = am_go0 cl 157 44 ls (.inl 0 :: st) h := am_rK am_m157 d_157_43 (by decide) rfl _ _ _
theorem d_157_44 : am_code 157 44 = some (.iload 5, 2) := by decide +kernel
theorem s_157_44 (cl : am_C) (a0 a1 a2 a3 a4 a6 a7 a8 a9 a10 a11 a12 a13 : Option am_V) (x : Int) (st : List am_V) (h : am_H) : am_go0 cl 157 44 [a0, a1, a2, a3, a4, some (.inl x), a6, a7, a8, a9, a10, a11, a12, a13] st h = am_go0 cl 157 46 [a0, a1, a2, a3, a4, some (.inl x), a6, a7, a8, a9, a10, a11, a12, a13] (.inl x :: st) h := am_r am_m157 d_157_44 rfl
theorem d_157_46 : am_code 157 46 = some (.iastore, 1) := by decide +kernel
theorem s_157_46 (cl : am_C) (ls : am_Ls) (i : Int) (v : Int) (k : Nat) (st : List am_V) (N : Nat) (I : Nat → Int → Int) (L : Nat → Int → Int64) : am_go0 cl 157 46 ls (.inl v :: .inl i :: .inr (.inr (some k)) :: st) (am_GS N, am_GR, I, L) = if am_inb (am_GS N) k 0 i = true then am_go0 cl 157 47 ls st (am_GS N, am_GR, am_uI I k i v, L) else none := am_rS am_m157 d_157_46 rfl k ls st i v _ _ I L
theorem d_157_47 : am_code 157 47 = some (.aload_n 0, 1) := by decide +kernel
theorem s_157_47 (cl : am_C) (a1 a2 a3 a4 a5 a6 a7 a8 a9 a10 a11 a12 a13 : Option am_V) (x : Nat) (st : List am_V) (h : am_H) : am_go0 cl 157 47 [some (.inr (.inr (some x))), a1, a2, a3, a4, a5, a6, a7, a8, a9, a10, a11, a12, a13] st h = am_go0 cl 157 48 [some (.inr (.inr (some x))), a1, a2, a3, a4, a5, a6, a7, a8, a9, a10, a11, a12, a13] (.inr (.inr (some x)) :: st) h := am_r am_m157 d_157_47 rfl
theorem d_157_48 : am_code 157 48 = some (.getfield 118, 3) := by decide +kernel
theorem s_157_48 (cl : am_C) (ls : am_Ls) (st : List am_V) (N : Nat) (I : Nat → Int → Int) (L : Nat → Int → Int64) : am_go0 cl 157 48 ls (.inr (.inr (some 53)) :: st) (am_GS N, am_GR, I, L) = am_go0 cl 157 51 ls (.inr (.inr (some 86)) :: st) (am_GS N, am_GR, I, L) := am_rG2 am_m157 d_157_48 am_f9118 rfl (gs_53 N) (by decide) gr_53_40 rfl
theorem d_157_51 : am_code 157 51 = some (.iconst 0, 1) := by decide +kernel
theorem s_157_51 (cl : am_C) (ls : am_Ls) (st : List am_V) (h : am_H) : am_go0 cl 157 51 ls st h = am_go0 cl 157 52 ls (.inl 0 :: st) h := am_rK am_m157 d_157_51 (by decide) rfl _ _ _
theorem d_157_52 : am_code 157 52 = some (.iconst 0, 1) := by decide +kernel
theorem s_157_52 (cl : am_C) (ls : am_Ls) (st : List am_V) (h : am_H) : am_go0 cl 157 52 ls st h = am_go0 cl 157 53 ls (.inl 0 :: st) h := am_rK am_m157 d_157_52 (by decide) rfl _ _ _
theorem d_157_53 : am_code 157 53 = some (.iastore, 1) := by decide +kernel
theorem s_157_53 (cl : am_C) (ls : am_Ls) (i : Int) (v : Int) (k : Nat) (st : List am_V) (N : Nat) (I : Nat → Int → Int) (L : Nat → Int → Int64) : am_go0 cl 157 53 ls (.inl v :: .inl i :: .inr (.inr (some k)) :: st) (am_GS N, am_GR, I, L) = if am_inb (am_GS N) k 0 i = true then am_go0 cl 157 54 ls st (am_GS N, am_GR, am_uI I k i v, L) else none := am_rS am_m157 d_157_53 rfl k ls st i v _ _ I L
theorem d_157_54 : am_code 157 54 = some (.iload 6, 2) := by decide +kernel
theorem s_157_54 (cl : am_C) (a0 a1 a2 a3 a4 a5 a7 a8 a9 a10 a11 a12 a13 : Option am_V) (x : Int) (st : List am_V) (h : am_H) : am_go0 cl 157 54 [a0, a1, a2, a3, a4, a5, some (.inl x), a7, a8, a9, a10, a11, a12, a13] st h = am_go0 cl 157 56 [a0, a1, a2, a3, a4, a5, some (.inl x), a7, a8, a9, a10, a11, a12, a13] (.inl x :: st) h := am_r am_m157 d_157_54 rfl
theorem d_157_56 : am_code 157 56 = some (.ifCond .le 248, 3) := by decide +kernel
theorem s_157_56 (cl : am_C) (ls : am_Ls) (x : Int) (st : List am_V) (h : am_H) : am_go0 cl 157 56 ls (.inl x :: st) h = if 0 < x then am_go0 cl 157 59 ls st h else am_go0 cl 157 304 ls st h := (am_rJ1 am_m157 d_157_56 (by decide) rfl x ls st h).trans (am_ifF ((am_cmp_le x 0).trans Int.not_lt.symm) _ _)
theorem d_157_59 : am_code 157 59 = some (.aload_n 0, 1) := by decide +kernel
theorem s_157_59 (cl : am_C) (a1 a2 a3 a4 a5 a6 a7 a8 a9 a10 a11 a12 a13 : Option am_V) (x : Nat) (st : List am_V) (h : am_H) : am_go0 cl 157 59 [some (.inr (.inr (some x))), a1, a2, a3, a4, a5, a6, a7, a8, a9, a10, a11, a12, a13] st h = am_go0 cl 157 60 [some (.inr (.inr (some x))), a1, a2, a3, a4, a5, a6, a7, a8, a9, a10, a11, a12, a13] (.inr (.inr (some x)) :: st) h := am_r am_m157 d_157_59 rfl
theorem d_157_60 : am_code 157 60 = some (.getfield 115, 3) := by decide +kernel
theorem s_157_60 (cl : am_C) (ls : am_Ls) (st : List am_V) (N : Nat) (I : Nat → Int → Int) (L : Nat → Int → Int64) : am_go0 cl 157 60 ls (.inr (.inr (some 53)) :: st) (am_GS N, am_GR, I, L) = am_go0 cl 157 63 ls (.inr (.inr (some 85)) :: st) (am_GS N, am_GR, I, L) := am_rG2 am_m157 d_157_60 am_f9115 rfl (gs_53 N) (by decide) gr_53_39 rfl
theorem d_157_63 : am_code 157 63 = some (.iload 6, 2) := by decide +kernel
theorem s_157_63 (cl : am_C) (a0 a1 a2 a3 a4 a5 a7 a8 a9 a10 a11 a12 a13 : Option am_V) (x : Int) (st : List am_V) (h : am_H) : am_go0 cl 157 63 [a0, a1, a2, a3, a4, a5, some (.inl x), a7, a8, a9, a10, a11, a12, a13] st h = am_go0 cl 157 65 [a0, a1, a2, a3, a4, a5, some (.inl x), a7, a8, a9, a10, a11, a12, a13] (.inl x :: st) h := am_r am_m157 d_157_63 rfl
theorem d_157_65 : am_code 157 65 = some (.iconst 1, 1) := by decide +kernel
theorem s_157_65 (cl : am_C) (ls : am_Ls) (st : List am_V) (h : am_H) : am_go0 cl 157 65 ls st h = am_go0 cl 157 66 ls (.inl 1 :: st) h := am_rK am_m157 d_157_65 (by decide) rfl _ _ _
theorem d_157_66 : am_code 157 66 = some (.isub, 1) := by decide +kernel
theorem s_157_66 (cl : am_C) (ls : am_Ls) (x y : Int) (st : List am_V) (h : am_H) : am_go0 cl 157 66 ls (.inl y :: .inl x :: st) h = am_go0 cl 157 67 ls (.inl (am_wr (x - y)) :: st) h := am_r am_m157 d_157_66 rfl
theorem d_157_67 : am_code 157 67 = some (.iaload, 1) := by decide +kernel
theorem s_157_67 (cl : am_C) (ls : am_Ls) (i : Int) (k : Nat) (st : List am_V) (N : Nat) (I : Nat → Int → Int) (L : Nat → Int → Int64) : am_go0 cl 157 67 ls (.inl i :: .inr (.inr (some k)) :: st) (am_GS N, am_GR, I, L) = if am_inb (am_GS N) k 0 i = true then am_go0 cl 157 68 ls (.inl (I k i) :: st) (am_GS N, am_GR, I, L) else none := am_rA am_m157 d_157_67 (by decide) rfl k ls st i _ _ I L
theorem d_157_68 : am_code 157 68 = some (.istore 7, 2) := by decide +kernel
theorem s_157_68 (cl : am_C) (a0 a1 a2 a3 a4 a5 a6 a7 a8 a9 a10 a11 a12 a13 : Option am_V) (x : Int) (st : List am_V) (h : am_H) : am_go0 cl 157 68 [a0, a1, a2, a3, a4, a5, a6, a7, a8, a9, a10, a11, a12, a13] (.inl x :: st) h = am_go0 cl 157 70 [a0, a1, a2, a3, a4, a5, am_c1 a6, some (.inl x), a8, a9, a10, a11, a12, a13] st h := am_r am_m157 d_157_68 rfl
theorem d_157_70 : am_code 157 70 = some (.aload_n 0, 1) := by decide +kernel
theorem s_157_70 (cl : am_C) (a1 a2 a3 a4 a5 a6 a7 a8 a9 a10 a11 a12 a13 : Option am_V) (x : Nat) (st : List am_V) (h : am_H) : am_go0 cl 157 70 [some (.inr (.inr (some x))), a1, a2, a3, a4, a5, a6, a7, a8, a9, a10, a11, a12, a13] st h = am_go0 cl 157 71 [some (.inr (.inr (some x))), a1, a2, a3, a4, a5, a6, a7, a8, a9, a10, a11, a12, a13] (.inr (.inr (some x)) :: st) h := am_r am_m157 d_157_70 rfl
theorem d_157_71 : am_code 157 71 = some (.getfield 118, 3) := by decide +kernel
theorem s_157_71 (cl : am_C) (ls : am_Ls) (st : List am_V) (N : Nat) (I : Nat → Int → Int) (L : Nat → Int → Int64) : am_go0 cl 157 71 ls (.inr (.inr (some 53)) :: st) (am_GS N, am_GR, I, L) = am_go0 cl 157 74 ls (.inr (.inr (some 86)) :: st) (am_GS N, am_GR, I, L) := am_rG2 am_m157 d_157_71 am_f9118 rfl (gs_53 N) (by decide) gr_53_40 rfl
theorem d_157_74 : am_code 157 74 = some (.iload 6, 2) := by decide +kernel
theorem s_157_74 (cl : am_C) (a0 a1 a2 a3 a4 a5 a7 a8 a9 a10 a11 a12 a13 : Option am_V) (x : Int) (st : List am_V) (h : am_H) : am_go0 cl 157 74 [a0, a1, a2, a3, a4, a5, some (.inl x), a7, a8, a9, a10, a11, a12, a13] st h = am_go0 cl 157 76 [a0, a1, a2, a3, a4, a5, some (.inl x), a7, a8, a9, a10, a11, a12, a13] (.inl x :: st) h := am_r am_m157 d_157_74 rfl
theorem d_157_76 : am_code 157 76 = some (.iconst 1, 1) := by decide +kernel
theorem s_157_76 (cl : am_C) (ls : am_Ls) (st : List am_V) (h : am_H) : am_go0 cl 157 76 ls st h = am_go0 cl 157 77 ls (.inl 1 :: st) h := am_rK am_m157 d_157_76 (by decide) rfl _ _ _
theorem d_157_77 : am_code 157 77 = some (.isub, 1) := by decide +kernel
theorem s_157_77 (cl : am_C) (ls : am_Ls) (x y : Int) (st : List am_V) (h : am_H) : am_go0 cl 157 77 ls (.inl y :: .inl x :: st) h = am_go0 cl 157 78 ls (.inl (am_wr (x - y)) :: st) h := am_r am_m157 d_157_77 rfl
theorem d_157_78 : am_code 157 78 = some (.iaload, 1) := by decide +kernel
theorem s_157_78 (cl : am_C) (ls : am_Ls) (i : Int) (k : Nat) (st : List am_V) (N : Nat) (I : Nat → Int → Int) (L : Nat → Int → Int64) : am_go0 cl 157 78 ls (.inl i :: .inr (.inr (some k)) :: st) (am_GS N, am_GR, I, L) = if am_inb (am_GS N) k 0 i = true then am_go0 cl 157 79 ls (.inl (I k i) :: st) (am_GS N, am_GR, I, L) else none := am_rA am_m157 d_157_78 (by decide) rfl k ls st i _ _ I L
theorem d_157_79 : am_code 157 79 = some (.istore 8, 2) := by decide +kernel
theorem s_157_79 (cl : am_C) (a0 a1 a2 a3 a4 a5 a6 a7 a8 a9 a10 a11 a12 a13 : Option am_V) (x : Int) (st : List am_V) (h : am_H) : am_go0 cl 157 79 [a0, a1, a2, a3, a4, a5, a6, a7, a8, a9, a10, a11, a12, a13] (.inl x :: st) h = am_go0 cl 157 81 [a0, a1, a2, a3, a4, a5, a6, am_c1 a7, some (.inl x), a9, a10, a11, a12, a13] st h := am_r am_m157 d_157_79 rfl
theorem d_157_81 : am_code 157 81 = some (.iload 8, 2) := by decide +kernel
theorem s_157_81 (cl : am_C) (a0 a1 a2 a3 a4 a5 a6 a7 a9 a10 a11 a12 a13 : Option am_V) (x : Int) (st : List am_V) (h : am_H) : am_go0 cl 157 81 [a0, a1, a2, a3, a4, a5, a6, a7, some (.inl x), a9, a10, a11, a12, a13] st h = am_go0 cl 157 83 [a0, a1, a2, a3, a4, a5, a6, a7, some (.inl x), a9, a10, a11, a12, a13] (.inl x :: st) h := am_r am_m157 d_157_81 rfl
theorem d_157_83 : am_code 157 83 = some (.aload_n 0, 1) := by decide +kernel
theorem s_157_83 (cl : am_C) (a1 a2 a3 a4 a5 a6 a7 a8 a9 a10 a11 a12 a13 : Option am_V) (x : Nat) (st : List am_V) (h : am_H) : am_go0 cl 157 83 [some (.inr (.inr (some x))), a1, a2, a3, a4, a5, a6, a7, a8, a9, a10, a11, a12, a13] st h = am_go0 cl 157 84 [some (.inr (.inr (some x))), a1, a2, a3, a4, a5, a6, a7, a8, a9, a10, a11, a12, a13] (.inr (.inr (some x)) :: st) h := am_r am_m157 d_157_83 rfl
theorem d_157_84 : am_code 157 84 = some (.iload 7, 2) := by decide +kernel
theorem s_157_84 (cl : am_C) (a0 a1 a2 a3 a4 a5 a6 a8 a9 a10 a11 a12 a13 : Option am_V) (x : Int) (st : List am_V) (h : am_H) : am_go0 cl 157 84 [a0, a1, a2, a3, a4, a5, a6, some (.inl x), a8, a9, a10, a11, a12, a13] st h = am_go0 cl 157 86 [a0, a1, a2, a3, a4, a5, a6, some (.inl x), a8, a9, a10, a11, a12, a13] (.inl x :: st) h := am_r am_m157 d_157_84 rfl
theorem d_157_86 : am_code 157 86 = some (.invokevirtual 214, 3) := by decide +kernel
theorem s_157_86 (cl : am_C) (ls : am_Ls) (x0 : Int) (z0 : Int) (N : Nat) (I : Nat → Int → Int) (L : Nat → Int → Int64) : am_go0 cl 157 86 ls [.inl x0, .inr (.inr (some 53)), .inl z0] (am_GS N, am_GR, I, L) = am_bd (cl 160 [.inr (.inr (some 53)), .inl x0] (am_GS N, am_GR, I, L)) (fun v h2 => am_go0 cl 157 89 ls (v.toList ++ [.inl z0]) h2) := am_rV am_m157 d_157_86 am_k9214 rfl am_m160 (gs_53 N) (by decide) (Nat.le_of_ble_eq_true rfl) rfl ls
theorem d_157_89 : am_code 157 89 = some (.if_icmp .ne 9, 3) := by decide +kernel
theorem s_157_89 (cl : am_C) (ls : am_Ls) (x y : Int) (st : List am_V) (h : am_H) : am_go0 cl 157 89 ls (.inl y :: .inl x :: st) h = if x = y then am_go0 cl 157 92 ls st h else am_go0 cl 157 98 ls st h := (am_rJ0 am_m157 d_157_89 (by decide) rfl x y ls st h).trans (am_ifF ((am_cmp_ne x y).trans Iff.rfl) _ _)
theorem d_157_92 : am_code 157 92 = some (.iinc 6 (-1), 3) := by decide +kernel
theorem s_157_92 (cl : am_C) (a0 a1 a2 a3 a4 a5 a7 a8 a9 a10 a11 a12 a13 : Option am_V) (x : Int) (st : List am_V) (h : am_H) : am_go0 cl 157 92 [a0, a1, a2, a3, a4, a5, some (.inl x), a7, a8, a9, a10, a11, a12, a13] st h = am_go0 cl 157 95 [a0, a1, a2, a3, a4, am_c1 a5, some (.inl (am_wr (x + (-1)))), a7, a8, a9, a10, a11, a12, a13] st h := am_r am_m157 d_157_92 rfl
theorem d_157_95 : am_code 157 95 = some (.goto 206, 3) := by decide +kernel
theorem s_157_95 (cl : am_C) (ls : am_Ls) (st : List am_V) (h : am_H) : am_go0 cl 157 95 ls st h = am_go0 cl 157 301 ls st h := am_rGo am_m157 d_157_95 (by decide) _ _ _
theorem d_157_98 : am_code 157 98 = some (.aload_n 0, 1) := by decide +kernel
theorem s_157_98 (cl : am_C) (a1 a2 a3 a4 a5 a6 a7 a8 a9 a10 a11 a12 a13 : Option am_V) (x : Nat) (st : List am_V) (h : am_H) : am_go0 cl 157 98 [some (.inr (.inr (some x))), a1, a2, a3, a4, a5, a6, a7, a8, a9, a10, a11, a12, a13] st h = am_go0 cl 157 99 [some (.inr (.inr (some x))), a1, a2, a3, a4, a5, a6, a7, a8, a9, a10, a11, a12, a13] (.inr (.inr (some x)) :: st) h := am_r am_m157 d_157_98 rfl
theorem d_157_99 : am_code 157 99 = some (.getfield 118, 3) := by decide +kernel
theorem s_157_99 (cl : am_C) (ls : am_Ls) (st : List am_V) (N : Nat) (I : Nat → Int → Int) (L : Nat → Int → Int64) : am_go0 cl 157 99 ls (.inr (.inr (some 53)) :: st) (am_GS N, am_GR, I, L) = am_go0 cl 157 102 ls (.inr (.inr (some 86)) :: st) (am_GS N, am_GR, I, L) := am_rG2 am_m157 d_157_99 am_f9118 rfl (gs_53 N) (by decide) gr_53_40 rfl
theorem d_157_102 : am_code 157 102 = some (.iload 6, 2) := by decide +kernel
theorem s_157_102 (cl : am_C) (a0 a1 a2 a3 a4 a5 a7 a8 a9 a10 a11 a12 a13 : Option am_V) (x : Int) (st : List am_V) (h : am_H) : am_go0 cl 157 102 [a0, a1, a2, a3, a4, a5, some (.inl x), a7, a8, a9, a10, a11, a12, a13] st h = am_go0 cl 157 104 [a0, a1, a2, a3, a4, a5, some (.inl x), a7, a8, a9, a10, a11, a12, a13] (.inl x :: st) h := am_r am_m157 d_157_102 rfl
theorem d_157_104 : am_code 157 104 = some (.iconst 1, 1) := by decide +kernel
theorem s_157_104 (cl : am_C) (ls : am_Ls) (st : List am_V) (h : am_H) : am_go0 cl 157 104 ls st h = am_go0 cl 157 105 ls (.inl 1 :: st) h := am_rK am_m157 d_157_104 (by decide) rfl _ _ _
theorem d_157_105 : am_code 157 105 = some (.isub, 1) := by decide +kernel
theorem s_157_105 (cl : am_C) (ls : am_Ls) (x y : Int) (st : List am_V) (h : am_H) : am_go0 cl 157 105 ls (.inl y :: .inl x :: st) h = am_go0 cl 157 106 ls (.inl (am_wr (x - y)) :: st) h := am_r am_m157 d_157_105 rfl
theorem d_157_106 : am_code 157 106 = some (.dup2, 1) := by decide +kernel
theorem s_157_106 (cl : am_C) (ls : am_Ls) (x : Int) (y : Nat) (st : List am_V) (h : am_H) : am_go0 cl 157 106 ls (.inl x :: .inr (.inr (some y)) :: st) h = am_go0 cl 157 107 ls (.inl x :: .inr (.inr (some y)) :: .inl x :: .inr (.inr (some y)) :: st) h := am_r am_m157 d_157_106 rfl
theorem d_157_107 : am_code 157 107 = some (.iaload, 1) := by decide +kernel
theorem s_157_107 (cl : am_C) (ls : am_Ls) (i : Int) (k : Nat) (st : List am_V) (N : Nat) (I : Nat → Int → Int) (L : Nat → Int → Int64) : am_go0 cl 157 107 ls (.inl i :: .inr (.inr (some k)) :: st) (am_GS N, am_GR, I, L) = if am_inb (am_GS N) k 0 i = true then am_go0 cl 157 108 ls (.inl (I k i) :: st) (am_GS N, am_GR, I, L) else none := am_rA am_m157 d_157_107 (by decide) rfl k ls st i _ _ I L
theorem d_157_108 : am_code 157 108 = some (.iconst 1, 1) := by decide +kernel
theorem s_157_108 (cl : am_C) (ls : am_Ls) (st : List am_V) (h : am_H) : am_go0 cl 157 108 ls st h = am_go0 cl 157 109 ls (.inl 1 :: st) h := am_rK am_m157 d_157_108 (by decide) rfl _ _ _
theorem d_157_109 : am_code 157 109 = some (.iadd, 1) := by decide +kernel
theorem s_157_109 (cl : am_C) (ls : am_Ls) (x y : Int) (st : List am_V) (h : am_H) : am_go0 cl 157 109 ls (.inl y :: .inl x :: st) h = am_go0 cl 157 110 ls (.inl (am_wr (x + y)) :: st) h := am_r am_m157 d_157_109 rfl
theorem d_157_110 : am_code 157 110 = some (.iastore, 1) := by decide +kernel
theorem s_157_110 (cl : am_C) (ls : am_Ls) (i : Int) (v : Int) (k : Nat) (st : List am_V) (N : Nat) (I : Nat → Int → Int) (L : Nat → Int → Int64) : am_go0 cl 157 110 ls (.inl v :: .inl i :: .inr (.inr (some k)) :: st) (am_GS N, am_GR, I, L) = if am_inb (am_GS N) k 0 i = true then am_go0 cl 157 111 ls st (am_GS N, am_GR, am_uI I k i v, L) else none := am_rS am_m157 d_157_110 rfl k ls st i v _ _ I L
theorem d_157_111 : am_code 157 111 = some (.aload_n 0, 1) := by decide +kernel
theorem s_157_111 (cl : am_C) (a1 a2 a3 a4 a5 a6 a7 a8 a9 a10 a11 a12 a13 : Option am_V) (x : Nat) (st : List am_V) (h : am_H) : am_go0 cl 157 111 [some (.inr (.inr (some x))), a1, a2, a3, a4, a5, a6, a7, a8, a9, a10, a11, a12, a13] st h = am_go0 cl 157 112 [some (.inr (.inr (some x))), a1, a2, a3, a4, a5, a6, a7, a8, a9, a10, a11, a12, a13] (.inr (.inr (some x)) :: st) h := am_r am_m157 d_157_111 rfl
theorem d_157_112 : am_code 157 112 = some (.getfield 90, 3) := by decide +kernel
theorem s_157_112 (cl : am_C) (ls : am_Ls) (st : List am_V) (N : Nat) (I : Nat → Int → Int) (L : Nat → Int → Int64) : am_go0 cl 157 112 ls (.inr (.inr (some 53)) :: st) (am_GS N, am_GR, I, L) = am_go0 cl 157 115 ls (.inr (.inr (some 79)) :: st) (am_GS N, am_GR, I, L) := am_rG2 am_m157 d_157_112 am_f9090 rfl (gs_53 N) (by decide) gr_53_31 rfl
theorem d_157_115 : am_code 157 115 = some (.iload 7, 2) := by decide +kernel
theorem s_157_115 (cl : am_C) (a0 a1 a2 a3 a4 a5 a6 a8 a9 a10 a11 a12 a13 : Option am_V) (x : Int) (st : List am_V) (h : am_H) : am_go0 cl 157 115 [a0, a1, a2, a3, a4, a5, a6, some (.inl x), a8, a9, a10, a11, a12, a13] st h = am_go0 cl 157 117 [a0, a1, a2, a3, a4, a5, a6, some (.inl x), a8, a9, a10, a11, a12, a13] (.inl x :: st) h := am_r am_m157 d_157_115 rfl
theorem d_157_117 : am_code 157 117 = some (.iaload, 1) := by decide +kernel
theorem s_157_117 (cl : am_C) (ls : am_Ls) (i : Int) (k : Nat) (st : List am_V) (N : Nat) (I : Nat → Int → Int) (L : Nat → Int → Int64) : am_go0 cl 157 117 ls (.inl i :: .inr (.inr (some k)) :: st) (am_GS N, am_GR, I, L) = if am_inb (am_GS N) k 0 i = true then am_go0 cl 157 118 ls (.inl (I k i) :: st) (am_GS N, am_GR, I, L) else none := am_rA am_m157 d_157_117 (by decide) rfl k ls st i _ _ I L
theorem d_157_118 : am_code 157 118 = some (.istore 9, 2) := by decide +kernel
theorem s_157_118 (cl : am_C) (a0 a1 a2 a3 a4 a5 a6 a7 a8 a9 a10 a11 a12 a13 : Option am_V) (x : Int) (st : List am_V) (h : am_H) : am_go0 cl 157 118 [a0, a1, a2, a3, a4, a5, a6, a7, a8, a9, a10, a11, a12, a13] (.inl x :: st) h = am_go0 cl 157 120 [a0, a1, a2, a3, a4, a5, a6, a7, am_c1 a8, some (.inl x), a10, a11, a12, a13] st h := am_r am_m157 d_157_118 rfl
theorem d_157_120 : am_code 157 120 = some (.iload 8, 2) := by decide +kernel
theorem s_157_120 (cl : am_C) (a0 a1 a2 a3 a4 a5 a6 a7 a9 a10 a11 a12 a13 : Option am_V) (x : Int) (st : List am_V) (h : am_H) : am_go0 cl 157 120 [a0, a1, a2, a3, a4, a5, a6, a7, some (.inl x), a9, a10, a11, a12, a13] st h = am_go0 cl 157 122 [a0, a1, a2, a3, a4, a5, a6, a7, some (.inl x), a9, a10, a11, a12, a13] (.inl x :: st) h := am_r am_m157 d_157_120 rfl
theorem d_157_122 : am_code 157 122 = some (.aload_n 0, 1) := by decide +kernel
theorem s_157_122 (cl : am_C) (a1 a2 a3 a4 a5 a6 a7 a8 a9 a10 a11 a12 a13 : Option am_V) (x : Nat) (st : List am_V) (h : am_H) : am_go0 cl 157 122 [some (.inr (.inr (some x))), a1, a2, a3, a4, a5, a6, a7, a8, a9, a10, a11, a12, a13] st h = am_go0 cl 157 123 [some (.inr (.inr (some x))), a1, a2, a3, a4, a5, a6, a7, a8, a9, a10, a11, a12, a13] (.inr (.inr (some x)) :: st) h := am_r am_m157 d_157_122 rfl
theorem d_157_123 : am_code 157 123 = some (.getfield 53, 3) := by decide +kernel
theorem s_157_123 (cl : am_C) (ls : am_Ls) (st : List am_V) (N : Nat) (I : Nat → Int → Int) (L : Nat → Int → Int64) : am_go0 cl 157 123 ls (.inr (.inr (some 53)) :: st) (am_GS N, am_GR, I, L) = am_go0 cl 157 126 ls (.inr (.inr (some 67)) :: st) (am_GS N, am_GR, I, L) := am_rG2 am_m157 d_157_123 am_f9053 rfl (gs_53 N) (by decide) gr_53_17 rfl
theorem d_157_126 : am_code 157 126 = some (.iload 9, 2) := by decide +kernel
theorem s_157_126 (cl : am_C) (a0 a1 a2 a3 a4 a5 a6 a7 a8 a10 a11 a12 a13 : Option am_V) (x : Int) (st : List am_V) (h : am_H) : am_go0 cl 157 126 [a0, a1, a2, a3, a4, a5, a6, a7, a8, some (.inl x), a10, a11, a12, a13] st h = am_go0 cl 157 128 [a0, a1, a2, a3, a4, a5, a6, a7, a8, some (.inl x), a10, a11, a12, a13] (.inl x :: st) h := am_r am_m157 d_157_126 rfl
theorem d_157_128 : am_code 157 128 = some (.iaload, 1) := by decide +kernel
theorem s_157_128 (cl : am_C) (ls : am_Ls) (i : Int) (k : Nat) (st : List am_V) (N : Nat) (I : Nat → Int → Int) (L : Nat → Int → Int64) : am_go0 cl 157 128 ls (.inl i :: .inr (.inr (some k)) :: st) (am_GS N, am_GR, I, L) = if am_inb (am_GS N) k 0 i = true then am_go0 cl 157 129 ls (.inl (I k i) :: st) (am_GS N, am_GR, I, L) else none := am_rA am_m157 d_157_128 (by decide) rfl k ls st i _ _ I L
theorem d_157_129 : am_code 157 129 = some (.if_icmp .ge 7, 3) := by decide +kernel
theorem s_157_129 (cl : am_C) (ls : am_Ls) (x y : Int) (st : List am_V) (h : am_H) : am_go0 cl 157 129 ls (.inl y :: .inl x :: st) h = if x < y then am_go0 cl 157 132 ls st h else am_go0 cl 157 136 ls st h := (am_rJ0 am_m157 d_157_129 (by decide) rfl x y ls st h).trans (am_ifF ((am_cmp_ge x y).trans Int.not_lt.symm) _ _)
theorem d_157_132 : am_code 157 132 = some (.iconst 1, 1) := by decide +kernel
theorem s_157_132 (cl : am_C) (ls : am_Ls) (st : List am_V) (h : am_H) : am_go0 cl 157 132 ls st h = am_go0 cl 157 133 ls (.inl 1 :: st) h := am_rK am_m157 d_157_132 (by decide) rfl _ _ _
theorem d_157_133 : am_code 157 133 = some (.goto 4, 3) := by decide +kernel
theorem s_157_133 (cl : am_C) (ls : am_Ls) (st : List am_V) (h : am_H) : am_go0 cl 157 133 ls st h = am_go0 cl 157 137 ls st h := am_rGo am_m157 d_157_133 (by decide) _ _ _
theorem d_157_136 : am_code 157 136 = some (.iconst 0, 1) := by decide +kernel
theorem s_157_136 (cl : am_C) (ls : am_Ls) (st : List am_V) (h : am_H) : am_go0 cl 157 136 ls st h = am_go0 cl 157 137 ls (.inl 0 :: st) h := am_rK am_m157 d_157_136 (by decide) rfl _ _ _
theorem d_157_137 : am_code 157 137 = some (.istore 10, 2) := by decide +kernel
theorem s_157_137 (cl : am_C) (a0 a1 a2 a3 a4 a5 a6 a7 a8 a9 a10 a11 a12 a13 : Option am_V) (x : Int) (st : List am_V) (h : am_H) : am_go0 cl 157 137 [a0, a1, a2, a3, a4, a5, a6, a7, a8, a9, a10, a11, a12, a13] (.inl x :: st) h = am_go0 cl 157 139 [a0, a1, a2, a3, a4, a5, a6, a7, a8, am_c1 a9, some (.inl x), a11, a12, a13] st h := am_r am_m157 d_157_137 rfl
theorem d_157_139 : am_code 157 139 = some (.iload 10, 2) := by decide +kernel
theorem s_157_139 (cl : am_C) (a0 a1 a2 a3 a4 a5 a6 a7 a8 a9 a11 a12 a13 : Option am_V) (x : Int) (st : List am_V) (h : am_H) : am_go0 cl 157 139 [a0, a1, a2, a3, a4, a5, a6, a7, a8, a9, some (.inl x), a11, a12, a13] st h = am_go0 cl 157 141 [a0, a1, a2, a3, a4, a5, a6, a7, a8, a9, some (.inl x), a11, a12, a13] (.inl x :: st) h := am_r am_m157 d_157_139 rfl
theorem d_157_141 : am_code 157 141 = some (.ifCond .eq 18, 3) := by decide +kernel
theorem s_157_141 (cl : am_C) (ls : am_Ls) (x : Int) (st : List am_V) (h : am_H) : am_go0 cl 157 141 ls (.inl x :: st) h = if x = 0 then am_go0 cl 157 159 ls st h else am_go0 cl 157 144 ls st h := (am_rJ1 am_m157 d_157_141 (by decide) rfl x ls st h).trans (am_ifT (am_cmp_eq x 0) _ _)
theorem d_157_144 : am_code 157 144 = some (.aload_n 0, 1) := by decide +kernel
theorem s_157_144 (cl : am_C) (a1 a2 a3 a4 a5 a6 a7 a8 a9 a10 a11 a12 a13 : Option am_V) (x : Nat) (st : List am_V) (h : am_H) : am_go0 cl 157 144 [some (.inr (.inr (some x))), a1, a2, a3, a4, a5, a6, a7, a8, a9, a10, a11, a12, a13] st h = am_go0 cl 157 145 [some (.inr (.inr (some x))), a1, a2, a3, a4, a5, a6, a7, a8, a9, a10, a11, a12, a13] (.inr (.inr (some x)) :: st) h := am_r am_m157 d_157_144 rfl
theorem d_157_145 : am_code 157 145 = some (.getfield 56, 3) := by decide +kernel
theorem s_157_145 (cl : am_C) (ls : am_Ls) (st : List am_V) (N : Nat) (I : Nat → Int → Int) (L : Nat → Int → Int64) : am_go0 cl 157 145 ls (.inr (.inr (some 53)) :: st) (am_GS N, am_GR, I, L) = am_go0 cl 157 148 ls (.inr (.inr (some 68)) :: st) (am_GS N, am_GR, I, L) := am_rG2 am_m157 d_157_145 am_f9056 rfl (gs_53 N) (by decide) gr_53_18 rfl
theorem d_157_148 : am_code 157 148 = some (.iconst 3, 1) := by decide +kernel
theorem s_157_148 (cl : am_C) (ls : am_Ls) (st : List am_V) (h : am_H) : am_go0 cl 157 148 ls st h = am_go0 cl 157 149 ls (.inl 3 :: st) h := am_rK am_m157 d_157_148 (by decide) rfl _ _ _
theorem d_157_149 : am_code 157 149 = some (.iload 9, 2) := by decide +kernel
theorem s_157_149 (cl : am_C) (a0 a1 a2 a3 a4 a5 a6 a7 a8 a10 a11 a12 a13 : Option am_V) (x : Int) (st : List am_V) (h : am_H) : am_go0 cl 157 149 [a0, a1, a2, a3, a4, a5, a6, a7, a8, some (.inl x), a10, a11, a12, a13] st h = am_go0 cl 157 151 [a0, a1, a2, a3, a4, a5, a6, a7, a8, some (.inl x), a10, a11, a12, a13] (.inl x :: st) h := am_r am_m157 d_157_149 rfl
theorem d_157_151 : am_code 157 151 = some (.imul, 1) := by decide +kernel
theorem s_157_151 (cl : am_C) (ls : am_Ls) (x y : Int) (st : List am_V) (h : am_H) : am_go0 cl 157 151 ls (.inl y :: .inl x :: st) h = am_go0 cl 157 152 ls (.inl (am_wr (x * y)) :: st) h := am_r am_m157 d_157_151 rfl
theorem d_157_152 : am_code 157 152 = some (.iload 8, 2) := by decide +kernel
theorem s_157_152 (cl : am_C) (a0 a1 a2 a3 a4 a5 a6 a7 a9 a10 a11 a12 a13 : Option am_V) (x : Int) (st : List am_V) (h : am_H) : am_go0 cl 157 152 [a0, a1, a2, a3, a4, a5, a6, a7, some (.inl x), a9, a10, a11, a12, a13] st h = am_go0 cl 157 154 [a0, a1, a2, a3, a4, a5, a6, a7, some (.inl x), a9, a10, a11, a12, a13] (.inl x :: st) h := am_r am_m157 d_157_152 rfl
theorem d_157_154 : am_code 157 154 = some (.iadd, 1) := by decide +kernel
theorem s_157_154 (cl : am_C) (ls : am_Ls) (x y : Int) (st : List am_V) (h : am_H) : am_go0 cl 157 154 ls (.inl y :: .inl x :: st) h = am_go0 cl 157 155 ls (.inl (am_wr (x + y)) :: st) h := am_r am_m157 d_157_154 rfl
theorem d_157_155 : am_code 157 155 = some (.iaload, 1) := by decide +kernel
theorem s_157_155 (cl : am_C) (ls : am_Ls) (i : Int) (k : Nat) (st : List am_V) (N : Nat) (I : Nat → Int → Int) (L : Nat → Int → Int64) : am_go0 cl 157 155 ls (.inl i :: .inr (.inr (some k)) :: st) (am_GS N, am_GR, I, L) = if am_inb (am_GS N) k 0 i = true then am_go0 cl 157 156 ls (.inl (I k i) :: st) (am_GS N, am_GR, I, L) else none := am_rA am_m157 d_157_155 (by decide) rfl k ls st i _ _ I L
theorem d_157_156 : am_code 157 156 = some (.goto 28, 3) := by decide +kernel
theorem s_157_156 (cl : am_C) (ls : am_Ls) (st : List am_V) (h : am_H) : am_go0 cl 157 156 ls st h = am_go0 cl 157 184 ls st h := am_rGo am_m157 d_157_156 (by decide) _ _ _
theorem d_157_159 : am_code 157 159 = some (.aload_n 0, 1) := by decide +kernel
theorem s_157_159 (cl : am_C) (a1 a2 a3 a4 a5 a6 a7 a8 a9 a10 a11 a12 a13 : Option am_V) (x : Nat) (st : List am_V) (h : am_H) : am_go0 cl 157 159 [some (.inr (.inr (some x))), a1, a2, a3, a4, a5, a6, a7, a8, a9, a10, a11, a12, a13] st h = am_go0 cl 157 160 [some (.inr (.inr (some x))), a1, a2, a3, a4, a5, a6, a7, a8, a9, a10, a11, a12, a13] (.inr (.inr (some x)) :: st) h := am_r am_m157 d_157_159 rfl
theorem d_157_160 : am_code 157 160 = some (.getfield 41, 3) := by decide +kernel
theorem s_157_160 (cl : am_C) (ls : am_Ls) (st : List am_V) (N : Nat) (I : Nat → Int → Int) (L : Nat → Int → Int64) : am_go0 cl 157 160 ls (.inr (.inr (some 53)) :: st) (am_GS N, am_GR, I, L) = am_go0 cl 157 163 ls (.inr (.inr (some 63)) :: st) (am_GS N, am_GR, I, L) := am_rG2 am_m157 d_157_160 am_f9041 rfl (gs_53 N) (by decide) gr_53_12 rfl
theorem d_157_163 : am_code 157 163 = some (.iconst 3, 1) := by decide +kernel
theorem s_157_163 (cl : am_C) (ls : am_Ls) (st : List am_V) (h : am_H) : am_go0 cl 157 163 ls st h = am_go0 cl 157 164 ls (.inl 3 :: st) h := am_rK am_m157 d_157_163 (by decide) rfl _ _ _
theorem d_157_164 : am_code 157 164 = some (.aload_n 0, 1) := by decide +kernel
theorem s_157_164 (cl : am_C) (a1 a2 a3 a4 a5 a6 a7 a8 a9 a10 a11 a12 a13 : Option am_V) (x : Nat) (st : List am_V) (h : am_H) : am_go0 cl 157 164 [some (.inr (.inr (some x))), a1, a2, a3, a4, a5, a6, a7, a8, a9, a10, a11, a12, a13] st h = am_go0 cl 157 165 [some (.inr (.inr (some x))), a1, a2, a3, a4, a5, a6, a7, a8, a9, a10, a11, a12, a13] (.inr (.inr (some x)) :: st) h := am_r am_m157 d_157_164 rfl
theorem d_157_165 : am_code 157 165 = some (.getfield 84, 3) := by decide +kernel
theorem s_157_165 (cl : am_C) (ls : am_Ls) (st : List am_V) (N : Nat) (I : Nat → Int → Int) (L : Nat → Int → Int64) : am_go0 cl 157 165 ls (.inr (.inr (some 53)) :: st) (am_GS N, am_GR, I, L) = am_go0 cl 157 168 ls (.inr (.inr (some 77)) :: st) (am_GS N, am_GR, I, L) := am_rG2 am_m157 d_157_165 am_f9084 rfl (gs_53 N) (by decide) gr_53_29 rfl
theorem d_157_168 : am_code 157 168 = some (.iload 7, 2) := by decide +kernel
theorem s_157_168 (cl : am_C) (a0 a1 a2 a3 a4 a5 a6 a8 a9 a10 a11 a12 a13 : Option am_V) (x : Int) (st : List am_V) (h : am_H) : am_go0 cl 157 168 [a0, a1, a2, a3, a4, a5, a6, some (.inl x), a8, a9, a10, a11, a12, a13] st h = am_go0 cl 157 170 [a0, a1, a2, a3, a4, a5, a6, some (.inl x), a8, a9, a10, a11, a12, a13] (.inl x :: st) h := am_r am_m157 d_157_168 rfl
theorem d_157_170 : am_code 157 170 = some (.iaload, 1) := by decide +kernel
theorem s_157_170 (cl : am_C) (ls : am_Ls) (i : Int) (k : Nat) (st : List am_V) (N : Nat) (I : Nat → Int → Int) (L : Nat → Int → Int64) : am_go0 cl 157 170 ls (.inl i :: .inr (.inr (some k)) :: st) (am_GS N, am_GR, I, L) = if am_inb (am_GS N) k 0 i = true then am_go0 cl 157 171 ls (.inl (I k i) :: st) (am_GS N, am_GR, I, L) else none := am_rA am_m157 d_157_170 (by decide) rfl k ls st i _ _ I L
theorem d_157_171 : am_code 157 171 = some (.imul, 1) := by decide +kernel
theorem s_157_171 (cl : am_C) (ls : am_Ls) (x y : Int) (st : List am_V) (h : am_H) : am_go0 cl 157 171 ls (.inl y :: .inl x :: st) h = am_go0 cl 157 172 ls (.inl (am_wr (x * y)) :: st) h := am_r am_m157 d_157_171 rfl
theorem d_157_172 : am_code 157 172 = some (.iload 8, 2) := by decide +kernel
theorem s_157_172 (cl : am_C) (a0 a1 a2 a3 a4 a5 a6 a7 a9 a10 a11 a12 a13 : Option am_V) (x : Int) (st : List am_V) (h : am_H) : am_go0 cl 157 172 [a0, a1, a2, a3, a4, a5, a6, a7, some (.inl x), a9, a10, a11, a12, a13] st h = am_go0 cl 157 174 [a0, a1, a2, a3, a4, a5, a6, a7, some (.inl x), a9, a10, a11, a12, a13] (.inl x :: st) h := am_r am_m157 d_157_172 rfl
theorem d_157_174 : am_code 157 174 = some (.iadd, 1) := by decide +kernel
theorem s_157_174 (cl : am_C) (ls : am_Ls) (x y : Int) (st : List am_V) (h : am_H) : am_go0 cl 157 174 ls (.inl y :: .inl x :: st) h = am_go0 cl 157 175 ls (.inl (am_wr (x + y)) :: st) h := am_r am_m157 d_157_174 rfl
theorem d_157_175 : am_code 157 175 = some (.aload_n 0, 1) := by decide +kernel
theorem s_157_175 (cl : am_C) (a1 a2 a3 a4 a5 a6 a7 a8 a9 a10 a11 a12 a13 : Option am_V) (x : Nat) (st : List am_V) (h : am_H) : am_go0 cl 157 175 [some (.inr (.inr (some x))), a1, a2, a3, a4, a5, a6, a7, a8, a9, a10, a11, a12, a13] st h = am_go0 cl 157 176 [some (.inr (.inr (some x))), a1, a2, a3, a4, a5, a6, a7, a8, a9, a10, a11, a12, a13] (.inr (.inr (some x)) :: st) h := am_r am_m157 d_157_175 rfl
theorem d_157_176 : am_code 157 176 = some (.getfield 53, 3) := by decide +kernel
theorem s_157_176 (cl : am_C) (ls : am_Ls) (st : List am_V) (N : Nat) (I : Nat → Int → Int) (L : Nat → Int → Int64) : am_go0 cl 157 176 ls (.inr (.inr (some 53)) :: st) (am_GS N, am_GR, I, L) = am_go0 cl 157 179 ls (.inr (.inr (some 67)) :: st) (am_GS N, am_GR, I, L) := am_rG2 am_m157 d_157_176 am_f9053 rfl (gs_53 N) (by decide) gr_53_17 rfl
theorem d_157_179 : am_code 157 179 = some (.iload 9, 2) := by decide +kernel
theorem s_157_179 (cl : am_C) (a0 a1 a2 a3 a4 a5 a6 a7 a8 a10 a11 a12 a13 : Option am_V) (x : Int) (st : List am_V) (h : am_H) : am_go0 cl 157 179 [a0, a1, a2, a3, a4, a5, a6, a7, a8, some (.inl x), a10, a11, a12, a13] st h = am_go0 cl 157 181 [a0, a1, a2, a3, a4, a5, a6, a7, a8, some (.inl x), a10, a11, a12, a13] (.inl x :: st) h := am_r am_m157 d_157_179 rfl
theorem d_157_181 : am_code 157 181 = some (.iaload, 1) := by decide +kernel
theorem s_157_181 (cl : am_C) (ls : am_Ls) (i : Int) (k : Nat) (st : List am_V) (N : Nat) (I : Nat → Int → Int) (L : Nat → Int → Int64) : am_go0 cl 157 181 ls (.inl i :: .inr (.inr (some k)) :: st) (am_GS N, am_GR, I, L) = if am_inb (am_GS N) k 0 i = true then am_go0 cl 157 182 ls (.inl (I k i) :: st) (am_GS N, am_GR, I, L) else none := am_rA am_m157 d_157_181 (by decide) rfl k ls st i _ _ I L
theorem d_157_182 : am_code 157 182 = some (.isub, 1) := by decide +kernel
theorem s_157_182 (cl : am_C) (ls : am_Ls) (x y : Int) (st : List am_V) (h : am_H) : am_go0 cl 157 182 ls (.inl y :: .inl x :: st) h = am_go0 cl 157 183 ls (.inl (am_wr (x - y)) :: st) h := am_r am_m157 d_157_182 rfl
theorem d_157_183 : am_code 157 183 = some (.iaload, 1) := by decide +kernel
theorem s_157_183 (cl : am_C) (ls : am_Ls) (i : Int) (k : Nat) (st : List am_V) (N : Nat) (I : Nat → Int → Int) (L : Nat → Int → Int64) : am_go0 cl 157 183 ls (.inl i :: .inr (.inr (some k)) :: st) (am_GS N, am_GR, I, L) = if am_inb (am_GS N) k 0 i = true then am_go0 cl 157 184 ls (.inl (I k i) :: st) (am_GS N, am_GR, I, L) else none := am_rA am_m157 d_157_183 (by decide) rfl k ls st i _ _ I L
theorem d_157_184 : am_code 157 184 = some (.istore 11, 2) := by decide +kernel
theorem s_157_184 (cl : am_C) (a0 a1 a2 a3 a4 a5 a6 a7 a8 a9 a10 a11 a12 a13 : Option am_V) (x : Int) (st : List am_V) (h : am_H) : am_go0 cl 157 184 [a0, a1, a2, a3, a4, a5, a6, a7, a8, a9, a10, a11, a12, a13] (.inl x :: st) h = am_go0 cl 157 186 [a0, a1, a2, a3, a4, a5, a6, a7, a8, a9, am_c1 a10, some (.inl x), a12, a13] st h := am_r am_m157 d_157_184 rfl
theorem d_157_186 : am_code 157 186 = some (.iload 10, 2) := by decide +kernel
theorem s_157_186 (cl : am_C) (a0 a1 a2 a3 a4 a5 a6 a7 a8 a9 a11 a12 a13 : Option am_V) (x : Int) (st : List am_V) (h : am_H) : am_go0 cl 157 186 [a0, a1, a2, a3, a4, a5, a6, a7, a8, a9, some (.inl x), a11, a12, a13] st h = am_go0 cl 157 188 [a0, a1, a2, a3, a4, a5, a6, a7, a8, a9, some (.inl x), a11, a12, a13] (.inl x :: st) h := am_r am_m157 d_157_186 rfl
theorem d_157_188 : am_code 157 188 = some (.ifCond .eq 29, 3) := by decide +kernel
theorem s_157_188 (cl : am_C) (ls : am_Ls) (x : Int) (st : List am_V) (h : am_H) : am_go0 cl 157 188 ls (.inl x :: st) h = if x = 0 then am_go0 cl 157 217 ls st h else am_go0 cl 157 191 ls st h := (am_rJ1 am_m157 d_157_188 (by decide) rfl x ls st h).trans (am_ifT (am_cmp_eq x 0) _ _)
theorem d_157_191 : am_code 157 191 = some (.aload_n 0, 1) := by decide +kernel
theorem s_157_191 (cl : am_C) (a1 a2 a3 a4 a5 a6 a7 a8 a9 a10 a11 a12 a13 : Option am_V) (x : Nat) (st : List am_V) (h : am_H) : am_go0 cl 157 191 [some (.inr (.inr (some x))), a1, a2, a3, a4, a5, a6, a7, a8, a9, a10, a11, a12, a13] st h = am_go0 cl 157 192 [some (.inr (.inr (some x))), a1, a2, a3, a4, a5, a6, a7, a8, a9, a10, a11, a12, a13] (.inr (.inr (some x)) :: st) h := am_r am_m157 d_157_191 rfl
theorem d_157_192 : am_code 157 192 = some (.aload_n 0, 1) := by decide +kernel
theorem s_157_192 (cl : am_C) (a1 a2 a3 a4 a5 a6 a7 a8 a9 a10 a11 a12 a13 : Option am_V) (x : Nat) (st : List am_V) (h : am_H) : am_go0 cl 157 192 [some (.inr (.inr (some x))), a1, a2, a3, a4, a5, a6, a7, a8, a9, a10, a11, a12, a13] st h = am_go0 cl 157 193 [some (.inr (.inr (some x))), a1, a2, a3, a4, a5, a6, a7, a8, a9, a10, a11, a12, a13] (.inr (.inr (some x)) :: st) h := am_r am_m157 d_157_192 rfl
theorem d_157_193 : am_code 157 193 = some (.getfield 87, 3) := by decide +kernel
theorem s_157_193 (cl : am_C) (ls : am_Ls) (st : List am_V) (N : Nat) (I : Nat → Int → Int) (L : Nat → Int → Int64) : am_go0 cl 157 193 ls (.inr (.inr (some 53)) :: st) (am_GS N, am_GR, I, L) = am_go0 cl 157 196 ls (.inr (.inr (some 78)) :: st) (am_GS N, am_GR, I, L) := am_rG2 am_m157 d_157_193 am_f9087 rfl (gs_53 N) (by decide) gr_53_30 rfl
theorem d_157_196 : am_code 157 196 = some (.iload 7, 2) := by decide +kernel
theorem s_157_196 (cl : am_C) (a0 a1 a2 a3 a4 a5 a6 a8 a9 a10 a11 a12 a13 : Option am_V) (x : Int) (st : List am_V) (h : am_H) : am_go0 cl 157 196 [a0, a1, a2, a3, a4, a5, a6, some (.inl x), a8, a9, a10, a11, a12, a13] st h = am_go0 cl 157 198 [a0, a1, a2, a3, a4, a5, a6, some (.inl x), a8, a9, a10, a11, a12, a13] (.inl x :: st) h := am_r am_m157 d_157_196 rfl
theorem d_157_198 : am_code 157 198 = some (.iaload, 1) := by decide +kernel
theorem s_157_198 (cl : am_C) (ls : am_Ls) (i : Int) (k : Nat) (st : List am_V) (N : Nat) (I : Nat → Int → Int) (L : Nat → Int → Int64) : am_go0 cl 157 198 ls (.inl i :: .inr (.inr (some k)) :: st) (am_GS N, am_GR, I, L) = if am_inb (am_GS N) k 0 i = true then am_go0 cl 157 199 ls (.inl (I k i) :: st) (am_GS N, am_GR, I, L) else none := am_rA am_m157 d_157_198 (by decide) rfl k ls st i _ _ I L
theorem d_157_199 : am_code 157 199 = some (.aload_n 0, 1) := by decide +kernel
theorem s_157_199 (cl : am_C) (a1 a2 a3 a4 a5 a6 a7 a8 a9 a10 a11 a12 a13 : Option am_V) (x : Nat) (st : List am_V) (h : am_H) : am_go0 cl 157 199 [some (.inr (.inr (some x))), a1, a2, a3, a4, a5, a6, a7, a8, a9, a10, a11, a12, a13] st h = am_go0 cl 157 200 [some (.inr (.inr (some x))), a1, a2, a3, a4, a5, a6, a7, a8, a9, a10, a11, a12, a13] (.inr (.inr (some x)) :: st) h := am_r am_m157 d_157_199 rfl
theorem d_157_200 : am_code 157 200 = some (.getfield 59, 3) := by decide +kernel
theorem s_157_200 (cl : am_C) (ls : am_Ls) (st : List am_V) (N : Nat) (I : Nat → Int → Int) (L : Nat → Int → Int64) : am_go0 cl 157 200 ls (.inr (.inr (some 53)) :: st) (am_GS N, am_GR, I, L) = am_go0 cl 157 203 ls (.inr (.inr (some 69)) :: st) (am_GS N, am_GR, I, L) := am_rG2 am_m157 d_157_200 am_f9059 rfl (gs_53 N) (by decide) gr_53_19 rfl
theorem d_157_203 : am_code 157 203 = some (.iconst 3, 1) := by decide +kernel
theorem s_157_203 (cl : am_C) (ls : am_Ls) (st : List am_V) (h : am_H) : am_go0 cl 157 203 ls st h = am_go0 cl 157 204 ls (.inl 3 :: st) h := am_rK am_m157 d_157_203 (by decide) rfl _ _ _
theorem d_157_204 : am_code 157 204 = some (.iload 9, 2) := by decide +kernel
theorem s_157_204 (cl : am_C) (a0 a1 a2 a3 a4 a5 a6 a7 a8 a10 a11 a12 a13 : Option am_V) (x : Int) (st : List am_V) (h : am_H) : am_go0 cl 157 204 [a0, a1, a2, a3, a4, a5, a6, a7, a8, some (.inl x), a10, a11, a12, a13] st h = am_go0 cl 157 206 [a0, a1, a2, a3, a4, a5, a6, a7, a8, some (.inl x), a10, a11, a12, a13] (.inl x :: st) h := am_r am_m157 d_157_204 rfl
theorem d_157_206 : am_code 157 206 = some (.imul, 1) := by decide +kernel
theorem s_157_206 (cl : am_C) (ls : am_Ls) (x y : Int) (st : List am_V) (h : am_H) : am_go0 cl 157 206 ls (.inl y :: .inl x :: st) h = am_go0 cl 157 207 ls (.inl (am_wr (x * y)) :: st) h := am_r am_m157 d_157_206 rfl
theorem d_157_207 : am_code 157 207 = some (.iload 8, 2) := by decide +kernel
theorem s_157_207 (cl : am_C) (a0 a1 a2 a3 a4 a5 a6 a7 a9 a10 a11 a12 a13 : Option am_V) (x : Int) (st : List am_V) (h : am_H) : am_go0 cl 157 207 [a0, a1, a2, a3, a4, a5, a6, a7, some (.inl x), a9, a10, a11, a12, a13] st h = am_go0 cl 157 209 [a0, a1, a2, a3, a4, a5, a6, a7, some (.inl x), a9, a10, a11, a12, a13] (.inl x :: st) h := am_r am_m157 d_157_207 rfl
theorem d_157_209 : am_code 157 209 = some (.iadd, 1) := by decide +kernel
theorem s_157_209 (cl : am_C) (ls : am_Ls) (x y : Int) (st : List am_V) (h : am_H) : am_go0 cl 157 209 ls (.inl y :: .inl x :: st) h = am_go0 cl 157 210 ls (.inl (am_wr (x + y)) :: st) h := am_r am_m157 d_157_209 rfl
theorem d_157_210 : am_code 157 210 = some (.iaload, 1) := by decide +kernel
theorem s_157_210 (cl : am_C) (ls : am_Ls) (i : Int) (k : Nat) (st : List am_V) (N : Nat) (I : Nat → Int → Int) (L : Nat → Int → Int64) : am_go0 cl 157 210 ls (.inl i :: .inr (.inr (some k)) :: st) (am_GS N, am_GR, I, L) = if am_inb (am_GS N) k 0 i = true then am_go0 cl 157 211 ls (.inl (I k i) :: st) (am_GS N, am_GR, I, L) else none := am_rA am_m157 d_157_210 (by decide) rfl k ls st i _ _ I L
theorem d_157_211 : am_code 157 211 = some (.invokevirtual 217, 3) := by decide +kernel
theorem s_157_211 (cl : am_C) (ls : am_Ls) (x0 : Int) (x1 : Int) (N : Nat) (I : Nat → Int → Int) (L : Nat → Int → Int64) : am_go0 cl 157 211 ls [.inl x1, .inl x0, .inr (.inr (some 53))] (am_GS N, am_GR, I, L) = am_bd (cl 161 [.inr (.inr (some 53)), .inl x0, .inl x1] (am_GS N, am_GR, I, L)) (fun v h2 => am_go0 cl 157 214 ls (v.toList ++ []) h2) := am_rV am_m157 d_157_211 am_k9217 rfl am_m161 (gs_53 N) (by decide) (Nat.le_of_ble_eq_true rfl) rfl ls
theorem d_157_214 : am_code 157 214 = some (.goto 10, 3) := by decide +kernel
theorem s_157_214 (cl : am_C) (ls : am_Ls) (st : List am_V) (h : am_H) : am_go0 cl 157 214 ls st h = am_go0 cl 157 224 ls st h := am_rGo am_m157 d_157_214 (by decide) _ _ _
theorem d_157_217 : am_code 157 217 = some (.aload_n 0, 1) := by decide +kernel
theorem s_157_217 (cl : am_C) (a1 a2 a3 a4 a5 a6 a7 a8 a9 a10 a11 a12 a13 : Option am_V) (x : Nat) (st : List am_V) (h : am_H) : am_go0 cl 157 217 [some (.inr (.inr (some x))), a1, a2, a3, a4, a5, a6, a7, a8, a9, a10, a11, a12, a13] st h = am_go0 cl 157 218 [some (.inr (.inr (some x))), a1, a2, a3, a4, a5, a6, a7, a8, a9, a10, a11, a12, a13] (.inr (.inr (some x)) :: st) h := am_r am_m157 d_157_217 rfl
theorem d_157_218 : am_code 157 218 = some (.getfield 87, 3) := by decide +kernel
theorem s_157_218 (cl : am_C) (ls : am_Ls) (st : List am_V) (N : Nat) (I : Nat → Int → Int) (L : Nat → Int → Int64) : am_go0 cl 157 218 ls (.inr (.inr (some 53)) :: st) (am_GS N, am_GR, I, L) = am_go0 cl 157 221 ls (.inr (.inr (some 78)) :: st) (am_GS N, am_GR, I, L) := am_rG2 am_m157 d_157_218 am_f9087 rfl (gs_53 N) (by decide) gr_53_30 rfl
theorem d_157_221 : am_code 157 221 = some (.iload 7, 2) := by decide +kernel
theorem s_157_221 (cl : am_C) (a0 a1 a2 a3 a4 a5 a6 a8 a9 a10 a11 a12 a13 : Option am_V) (x : Int) (st : List am_V) (h : am_H) : am_go0 cl 157 221 [a0, a1, a2, a3, a4, a5, a6, some (.inl x), a8, a9, a10, a11, a12, a13] st h = am_go0 cl 157 223 [a0, a1, a2, a3, a4, a5, a6, some (.inl x), a8, a9, a10, a11, a12, a13] (.inl x :: st) h := am_r am_m157 d_157_221 rfl
theorem d_157_223 : am_code 157 223 = some (.iaload, 1) := by decide +kernel
theorem s_157_223 (cl : am_C) (ls : am_Ls) (i : Int) (k : Nat) (st : List am_V) (N : Nat) (I : Nat → Int → Int) (L : Nat → Int → Int64) : am_go0 cl 157 223 ls (.inl i :: .inr (.inr (some k)) :: st) (am_GS N, am_GR, I, L) = if am_inb (am_GS N) k 0 i = true then am_go0 cl 157 224 ls (.inl (I k i) :: st) (am_GS N, am_GR, I, L) else none := am_rA am_m157 d_157_223 (by decide) rfl k ls st i _ _ I L
theorem d_157_224 : am_code 157 224 = some (.istore 12, 2) := by decide +kernel
theorem s_157_224 (cl : am_C) (a0 a1 a2 a3 a4 a5 a6 a7 a8 a9 a10 a11 a12 a13 : Option am_V) (x : Int) (st : List am_V) (h : am_H) : am_go0 cl 157 224 [a0, a1, a2, a3, a4, a5, a6, a7, a8, a9, a10, a11, a12, a13] (.inl x :: st) h = am_go0 cl 157 226 [a0, a1, a2, a3, a4, a5, a6, a7, a8, a9, a10, am_c1 a11, some (.inl x), a13] st h := am_r am_m157 d_157_224 rfl
theorem d_157_226 : am_code 157 226 = some (.aload_n 0, 1) := by decide +kernel
theorem s_157_226 (cl : am_C) (a1 a2 a3 a4 a5 a6 a7 a8 a9 a10 a11 a12 a13 : Option am_V) (x : Nat) (st : List am_V) (h : am_H) : am_go0 cl 157 226 [some (.inr (.inr (some x))), a1, a2, a3, a4, a5, a6, a7, a8, a9, a10, a11, a12, a13] st h = am_go0 cl 157 227 [some (.inr (.inr (some x))), a1, a2, a3, a4, a5, a6, a7, a8, a9, a10, a11, a12, a13] (.inr (.inr (some x)) :: st) h := am_r am_m157 d_157_226 rfl
theorem d_157_227 : am_code 157 227 = some (.iload 11, 2) := by decide +kernel
theorem s_157_227 (cl : am_C) (a0 a1 a2 a3 a4 a5 a6 a7 a8 a9 a10 a12 a13 : Option am_V) (x : Int) (st : List am_V) (h : am_H) : am_go0 cl 157 227 [a0, a1, a2, a3, a4, a5, a6, a7, a8, a9, a10, some (.inl x), a12, a13] st h = am_go0 cl 157 229 [a0, a1, a2, a3, a4, a5, a6, a7, a8, a9, a10, some (.inl x), a12, a13] (.inl x :: st) h := am_r am_m157 d_157_227 rfl
theorem d_157_229 : am_code 157 229 = some (.iload 12, 2) := by decide +kernel
theorem s_157_229 (cl : am_C) (a0 a1 a2 a3 a4 a5 a6 a7 a8 a9 a10 a11 a13 : Option am_V) (x : Int) (st : List am_V) (h : am_H) : am_go0 cl 157 229 [a0, a1, a2, a3, a4, a5, a6, a7, a8, a9, a10, a11, some (.inl x), a13] st h = am_go0 cl 157 231 [a0, a1, a2, a3, a4, a5, a6, a7, a8, a9, a10, a11, some (.inl x), a13] (.inl x :: st) h := am_r am_m157 d_157_229 rfl
theorem d_157_231 : am_code 157 231 = some (.invokevirtual 208, 3) := by decide +kernel
theorem s_157_231 (cl : am_C) (ls : am_Ls) (x0 : Int) (x1 : Int) (N : Nat) (I : Nat → Int → Int) (L : Nat → Int → Int64) : am_go0 cl 157 231 ls [.inl x1, .inl x0, .inr (.inr (some 53))] (am_GS N, am_GR, I, L) = am_bd (cl 158 [.inr (.inr (some 53)), .inl x0, .inl x1] (am_GS N, am_GR, I, L)) (fun v h2 => am_go0 cl 157 234 ls (v.toList ++ []) h2) := am_rV am_m157 d_157_231 am_k9208 rfl am_m158 (gs_53 N) (by decide) (Nat.le_of_ble_eq_true rfl) rfl ls
theorem d_157_234 : am_code 157 234 = some (.istore 13, 2) := by decide +kernel
theorem s_157_234 (cl : am_C) (a0 a1 a2 a3 a4 a5 a6 a7 a8 a9 a10 a11 a12 a13 : Option am_V) (x : Int) (st : List am_V) (h : am_H) : am_go0 cl 157 234 [a0, a1, a2, a3, a4, a5, a6, a7, a8, a9, a10, a11, a12, a13] (.inl x :: st) h = am_go0 cl 157 236 [a0, a1, a2, a3, a4, a5, a6, a7, a8, a9, a10, a11, am_c1 a12, some (.inl x)] st h := am_r am_m157 d_157_234 rfl
theorem d_157_236 : am_code 157 236 = some (.iload 13, 2) := by decide +kernel
theorem s_157_236 (cl : am_C) (a0 a1 a2 a3 a4 a5 a6 a7 a8 a9 a10 a11 a12 : Option am_V) (x : Int) (st : List am_V) (h : am_H) : am_go0 cl 157 236 [a0, a1, a2, a3, a4, a5, a6, a7, a8, a9, a10, a11, a12, some (.inl x)] st h = am_go0 cl 157 238 [a0, a1, a2, a3, a4, a5, a6, a7, a8, a9, a10, a11, a12, some (.inl x)] (.inl x :: st) h := am_r am_m157 d_157_236 rfl
theorem d_157_238 : am_code 157 238 = some (.iconst (-1), 1) := by decide +kernel
theorem s_157_238 (cl : am_C) (ls : am_Ls) (st : List am_V) (h : am_H) : am_go0 cl 157 238 ls st h = am_go0 cl 157 239 ls (.inl (-1) :: st) h := am_rK am_m157 d_157_238 (by decide) rfl _ _ _
theorem d_157_239 : am_code 157 239 = some (.if_icmp .ne 47, 3) := by decide +kernel
theorem s_157_239 (cl : am_C) (ls : am_Ls) (x y : Int) (st : List am_V) (h : am_H) : am_go0 cl 157 239 ls (.inl y :: .inl x :: st) h = if x = y then am_go0 cl 157 242 ls st h else am_go0 cl 157 286 ls st h := (am_rJ0 am_m157 d_157_239 (by decide) rfl x y ls st h).trans (am_ifF ((am_cmp_ne x y).trans Iff.rfl) _ _)
theorem d_157_242 : am_code 157 242 = some (.aload_n 0, 1) := by decide +kernel
theorem s_157_242 (cl : am_C) (a1 a2 a3 a4 a5 a6 a7 a8 a9 a10 a11 a12 a13 : Option am_V) (x : Nat) (st : List am_V) (h : am_H) : am_go0 cl 157 242 [some (.inr (.inr (some x))), a1, a2, a3, a4, a5, a6, a7, a8, a9, a10, a11, a12, a13] st h = am_go0 cl 157 243 [some (.inr (.inr (some x))), a1, a2, a3, a4, a5, a6, a7, a8, a9, a10, a11, a12, a13] (.inr (.inr (some x)) :: st) h := am_r am_m157 d_157_242 rfl
theorem d_157_243 : am_code 157 243 = some (.iload 11, 2) := by decide +kernel
theorem s_157_243 (cl : am_C) (a0 a1 a2 a3 a4 a5 a6 a7 a8 a9 a10 a12 a13 : Option am_V) (x : Int) (st : List am_V) (h : am_H) : am_go0 cl 157 243 [a0, a1, a2, a3, a4, a5, a6, a7, a8, a9, a10, some (.inl x), a12, a13] st h = am_go0 cl 157 245 [a0, a1, a2, a3, a4, a5, a6, a7, a8, a9, a10, some (.inl x), a12, a13] (.inl x :: st) h := am_r am_m157 d_157_243 rfl
theorem d_157_245 : am_code 157 245 = some (.iload 12, 2) := by decide +kernel
theorem s_157_245 (cl : am_C) (a0 a1 a2 a3 a4 a5 a6 a7 a8 a9 a10 a11 a13 : Option am_V) (x : Int) (st : List am_V) (h : am_H) : am_go0 cl 157 245 [a0, a1, a2, a3, a4, a5, a6, a7, a8, a9, a10, a11, some (.inl x), a13] st h = am_go0 cl 157 247 [a0, a1, a2, a3, a4, a5, a6, a7, a8, a9, a10, a11, some (.inl x), a13] (.inl x :: st) h := am_r am_m157 d_157_245 rfl
theorem d_157_247 : am_code 157 247 = some (.invokevirtual 211, 3) := by decide +kernel
theorem s_157_247 (cl : am_C) (ls : am_Ls) (x0 : Int) (x1 : Int) (N : Nat) (I : Nat → Int → Int) (L : Nat → Int → Int64) : am_go0 cl 157 247 ls [.inl x1, .inl x0, .inr (.inr (some 53))] (am_GS N, am_GR, I, L) = am_bd (cl 159 [.inr (.inr (some 53)), .inl x0, .inl x1] (am_GS N, am_GR, I, L)) (fun v h2 => am_go0 cl 157 250 ls (v.toList ++ []) h2) := am_rV am_m157 d_157_247 am_k9211 rfl am_m159 (gs_53 N) (by decide) (Nat.le_of_ble_eq_true rfl) rfl ls
theorem d_157_250 : am_code 157 250 = some (.istore 13, 2) := by decide +kernel
theorem s_157_250 (cl : am_C) (a0 a1 a2 a3 a4 a5 a6 a7 a8 a9 a10 a11 a12 a13 : Option am_V) (x : Int) (st : List am_V) (h : am_H) : am_go0 cl 157 250 [a0, a1, a2, a3, a4, a5, a6, a7, a8, a9, a10, a11, a12, a13] (.inl x :: st) h = am_go0 cl 157 252 [a0, a1, a2, a3, a4, a5, a6, a7, a8, a9, a10, a11, am_c1 a12, some (.inl x)] st h := am_r am_m157 d_157_250 rfl
theorem d_157_252 : am_code 157 252 = some (.iload 13, 2) := by decide +kernel
theorem s_157_252 (cl : am_C) (a0 a1 a2 a3 a4 a5 a6 a7 a8 a9 a10 a11 a12 : Option am_V) (x : Int) (st : List am_V) (h : am_H) : am_go0 cl 157 252 [a0, a1, a2, a3, a4, a5, a6, a7, a8, a9, a10, a11, a12, some (.inl x)] st h = am_go0 cl 157 254 [a0, a1, a2, a3, a4, a5, a6, a7, a8, a9, a10, a11, a12, some (.inl x)] (.inl x :: st) h := am_r am_m157 d_157_252 rfl
theorem d_157_254 : am_code 157 254 = some (.ifCond .ge 12, 3) := by decide +kernel
theorem s_157_254 (cl : am_C) (ls : am_Ls) (x : Int) (st : List am_V) (h : am_H) : am_go0 cl 157 254 ls (.inl x :: st) h = if x < 0 then am_go0 cl 157 257 ls st h else am_go0 cl 157 266 ls st h := (am_rJ1 am_m157 d_157_254 (by decide) rfl x ls st h).trans (am_ifF ((am_cmp_ge x 0).trans Int.not_lt.symm) _ _)
theorem d_157_257 : am_code 157 257 = some (.aload_n 0, 1) := by decide +kernel
theorem s_157_257 (cl : am_C) (a1 a2 a3 a4 a5 a6 a7 a8 a9 a10 a11 a12 a13 : Option am_V) (x : Nat) (st : List am_V) (h : am_H) : am_go0 cl 157 257 [some (.inr (.inr (some x))), a1, a2, a3, a4, a5, a6, a7, a8, a9, a10, a11, a12, a13] st h = am_go0 cl 157 258 [some (.inr (.inr (some x))), a1, a2, a3, a4, a5, a6, a7, a8, a9, a10, a11, a12, a13] (.inr (.inr (some x)) :: st) h := am_r am_m157 d_157_257 rfl
theorem d_157_258 : am_code 157 258 = some (.iload 4, 2) := by decide +kernel
theorem s_157_258 (cl : am_C) (a0 a1 a2 a3 a5 a6 a7 a8 a9 a10 a11 a12 a13 : Option am_V) (x : Int) (st : List am_V) (h : am_H) : am_go0 cl 157 258 [a0, a1, a2, a3, some (.inl x), a5, a6, a7, a8, a9, a10, a11, a12, a13] st h = am_go0 cl 157 260 [a0, a1, a2, a3, some (.inl x), a5, a6, a7, a8, a9, a10, a11, a12, a13] (.inl x :: st) h := am_r am_m157 d_157_258 rfl
theorem d_157_260 : am_code 157 260 = some (.putfield 172, 3) := by decide +kernel
theorem s_157_260 (cl : am_C) (ls : am_Ls) (v : Int) (st : List am_V) (N : Nat) (I : Nat → Int → Int) (L : Nat → Int → Int64) : am_go0 cl 157 260 ls (.inl v :: .inr (.inr (some 53)) :: st) (am_GS N, am_GR, I, L) = am_go0 cl 157 263 ls st (am_GS N, am_GR, am_uI I 53 28 v, L) := am_rP0 am_m157 d_157_260 am_f9172 rfl (gs_53 N) (by decide) rfl
theorem d_157_263 : am_code 157 263 = some (.iload 13, 2) := by decide +kernel
theorem s_157_263 (cl : am_C) (a0 a1 a2 a3 a4 a5 a6 a7 a8 a9 a10 a11 a12 : Option am_V) (x : Int) (st : List am_V) (h : am_H) : am_go0 cl 157 263 [a0, a1, a2, a3, a4, a5, a6, a7, a8, a9, a10, a11, a12, some (.inl x)] st h = am_go0 cl 157 265 [a0, a1, a2, a3, a4, a5, a6, a7, a8, a9, a10, a11, a12, some (.inl x)] (.inl x :: st) h := am_r am_m157 d_157_263 rfl
theorem d_157_265 : am_code 157 265 = some (.ireturn, 1) := by decide +kernel
theorem s_157_265 (cl : am_C) (ls : am_Ls) (x : Int) (h : am_H) : am_go0 cl 157 265 ls [.inl x] h = some (some (.inl x), h) := am_rE am_m157 d_157_265 rfl
theorem d_157_266 : am_code 157 266 = some (.aload_n 0, 1) := by decide +kernel
theorem s_157_266 (cl : am_C) (a1 a2 a3 a4 a5 a6 a7 a8 a9 a10 a11 a12 a13 : Option am_V) (x : Nat) (st : List am_V) (h : am_H) : am_go0 cl 157 266 [some (.inr (.inr (some x))), a1, a2, a3, a4, a5, a6, a7, a8, a9, a10, a11, a12, a13] st h = am_go0 cl 157 267 [some (.inr (.inr (some x))), a1, a2, a3, a4, a5, a6, a7, a8, a9, a10, a11, a12, a13] (.inr (.inr (some x)) :: st) h := am_r am_m157 d_157_266 rfl
theorem d_157_267 : am_code 157 267 = some (.getfield 115, 3) := by decide +kernel
theorem s_157_267 (cl : am_C) (ls : am_Ls) (st : List am_V) (N : Nat) (I : Nat → Int → Int) (L : Nat → Int → Int64) : am_go0 cl 157 267 ls (.inr (.inr (some 53)) :: st) (am_GS N, am_GR, I, L) = am_go0 cl 157 270 ls (.inr (.inr (some 85)) :: st) (am_GS N, am_GR, I, L) := am_rG2 am_m157 d_157_267 am_f9115 rfl (gs_53 N) (by decide) gr_53_39 rfl
theorem d_157_270 : am_code 157 270 = some (.iload 6, 2) := by decide +kernel
theorem s_157_270 (cl : am_C) (a0 a1 a2 a3 a4 a5 a7 a8 a9 a10 a11 a12 a13 : Option am_V) (x : Int) (st : List am_V) (h : am_H) : am_go0 cl 157 270 [a0, a1, a2, a3, a4, a5, some (.inl x), a7, a8, a9, a10, a11, a12, a13] st h = am_go0 cl 157 272 [a0, a1, a2, a3, a4, a5, some (.inl x), a7, a8, a9, a10, a11, a12, a13] (.inl x :: st) h := am_r am_m157 d_157_270 rfl
theorem d_157_272 : am_code 157 272 = some (.iload 13, 2) := by decide +kernel
theorem s_157_272 (cl : am_C) (a0 a1 a2 a3 a4 a5 a6 a7 a8 a9 a10 a11 a12 : Option am_V) (x : Int) (st : List am_V) (h : am_H) : am_go0 cl 157 272 [a0, a1, a2, a3, a4, a5, a6, a7, a8, a9, a10, a11, a12, some (.inl x)] st h = am_go0 cl 157 274 [a0, a1, a2, a3, a4, a5, a6, a7, a8, a9, a10, a11, a12, some (.inl x)] (.inl x :: st) h := am_r am_m157 d_157_272 rfl
theorem d_157_274 : am_code 157 274 = some (.iastore, 1) := by decide +kernel
theorem s_157_274 (cl : am_C) (ls : am_Ls) (i : Int) (v : Int) (k : Nat) (st : List am_V) (N : Nat) (I : Nat → Int → Int) (L : Nat → Int → Int64) : am_go0 cl 157 274 ls (.inl v :: .inl i :: .inr (.inr (some k)) :: st) (am_GS N, am_GR, I, L) = if am_inb (am_GS N) k 0 i = true then am_go0 cl 157 275 ls st (am_GS N, am_GR, am_uI I k i v, L) else none := am_rS am_m157 d_157_274 rfl k ls st i v _ _ I L
theorem d_157_275 : am_code 157 275 = some (.aload_n 0, 1) := by decide +kernel
theorem s_157_275 (cl : am_C) (a1 a2 a3 a4 a5 a6 a7 a8 a9 a10 a11 a12 a13 : Option am_V) (x : Nat) (st : List am_V) (h : am_H) : am_go0 cl 157 275 [some (.inr (.inr (some x))), a1, a2, a3, a4, a5, a6, a7, a8, a9, a10, a11, a12, a13] st h = am_go0 cl 157 276 [some (.inr (.inr (some x))), a1, a2, a3, a4, a5, a6, a7, a8, a9, a10, a11, a12, a13] (.inr (.inr (some x)) :: st) h := am_r am_m157 d_157_275 rfl
theorem d_157_276 : am_code 157 276 = some (.getfield 118, 3) := by decide +kernel
theorem s_157_276 (cl : am_C) (ls : am_Ls) (st : List am_V) (N : Nat) (I : Nat → Int → Int) (L : Nat → Int → Int64) : am_go0 cl 157 276 ls (.inr (.inr (some 53)) :: st) (am_GS N, am_GR, I, L) = am_go0 cl 157 279 ls (.inr (.inr (some 86)) :: st) (am_GS N, am_GR, I, L) := am_rG2 am_m157 d_157_276 am_f9118 rfl (gs_53 N) (by decide) gr_53_40 rfl
theorem d_157_279 : am_code 157 279 = some (.iload 6, 2) := by decide +kernel
theorem s_157_279 (cl : am_C) (a0 a1 a2 a3 a4 a5 a7 a8 a9 a10 a11 a12 a13 : Option am_V) (x : Int) (st : List am_V) (h : am_H) : am_go0 cl 157 279 [a0, a1, a2, a3, a4, a5, some (.inl x), a7, a8, a9, a10, a11, a12, a13] st h = am_go0 cl 157 281 [a0, a1, a2, a3, a4, a5, some (.inl x), a7, a8, a9, a10, a11, a12, a13] (.inl x :: st) h := am_r am_m157 d_157_279 rfl
theorem d_157_281 : am_code 157 281 = some (.iconst 0, 1) := by decide +kernel
theorem s_157_281 (cl : am_C) (ls : am_Ls) (st : List am_V) (h : am_H) : am_go0 cl 157 281 ls st h = am_go0 cl 157 282 ls (.inl 0 :: st) h := am_rK am_m157 d_157_281 (by decide) rfl _ _ _
theorem d_157_282 : am_code 157 282 = some (.iastore, 1) := by decide +kernel
theorem s_157_282 (cl : am_C) (ls : am_Ls) (i : Int) (v : Int) (k : Nat) (st : List am_V) (N : Nat) (I : Nat → Int → Int) (L : Nat → Int → Int64) : am_go0 cl 157 282 ls (.inl v :: .inl i :: .inr (.inr (some k)) :: st) (am_GS N, am_GR, I, L) = if am_inb (am_GS N) k 0 i = true then am_go0 cl 157 283 ls st (am_GS N, am_GR, am_uI I k i v, L) else none := am_rS am_m157 d_157_282 rfl k ls st i v _ _ I L
theorem d_157_283 : am_code 157 283 = some (.iinc 6 1, 3) := by decide +kernel
theorem s_157_283 (cl : am_C) (a0 a1 a2 a3 a4 a5 a7 a8 a9 a10 a11 a12 a13 : Option am_V) (x : Int) (st : List am_V) (h : am_H) : am_go0 cl 157 283 [a0, a1, a2, a3, a4, a5, some (.inl x), a7, a8, a9, a10, a11, a12, a13] st h = am_go0 cl 157 286 [a0, a1, a2, a3, a4, am_c1 a5, some (.inl (am_wr (x + 1))), a7, a8, a9, a10, a11, a12, a13] st h := am_r am_m157 d_157_283 rfl
theorem d_157_286 : am_code 157 286 = some (.aload_n 0, 1) := by decide +kernel
theorem s_157_286 (cl : am_C) (a1 a2 a3 a4 a5 a6 a7 a8 a9 a10 a11 a12 a13 : Option am_V) (x : Nat) (st : List am_V) (h : am_H) : am_go0 cl 157 286 [some (.inr (.inr (some x))), a1, a2, a3, a4, a5, a6, a7, a8, a9, a10, a11, a12, a13] st h = am_go0 cl 157 287 [some (.inr (.inr (some x))), a1, a2, a3, a4, a5, a6, a7, a8, a9, a10, a11, a12, a13] (.inr (.inr (some x)) :: st) h := am_r am_m157 d_157_286 rfl
theorem d_157_287 : am_code 157 287 = some (.getfield 93, 3) := by decide +kernel
theorem s_157_287 (cl : am_C) (ls : am_Ls) (st : List am_V) (N : Nat) (I : Nat → Int → Int) (L : Nat → Int → Int64) : am_go0 cl 157 287 ls (.inr (.inr (some 53)) :: st) (am_GS N, am_GR, I, L) = am_go0 cl 157 290 ls (.inr (.inr (some 80)) :: st) (am_GS N, am_GR, I, L) := am_rG2 am_m157 d_157_287 am_f9093 rfl (gs_53 N) (by decide) gr_53_32 rfl
theorem d_157_290 : am_code 157 290 = some (.bipush 6, 2) := by decide +kernel
theorem s_157_290 (cl : am_C) (ls : am_Ls) (st : List am_V) (h : am_H) : am_go0 cl 157 290 ls st h = am_go0 cl 157 292 ls (.inl 6 :: st) h := am_rB am_m157 d_157_290 (by decide) rfl _ _ _
theorem d_157_292 : am_code 157 292 = some (.iload 7, 2) := by decide +kernel
theorem s_157_292 (cl : am_C) (a0 a1 a2 a3 a4 a5 a6 a8 a9 a10 a11 a12 a13 : Option am_V) (x : Int) (st : List am_V) (h : am_H) : am_go0 cl 157 292 [a0, a1, a2, a3, a4, a5, a6, some (.inl x), a8, a9, a10, a11, a12, a13] st h = am_go0 cl 157 294 [a0, a1, a2, a3, a4, a5, a6, some (.inl x), a8, a9, a10, a11, a12, a13] (.inl x :: st) h := am_r am_m157 d_157_292 rfl
theorem d_157_294 : am_code 157 294 = some (.imul, 1) := by decide +kernel
theorem s_157_294 (cl : am_C) (ls : am_Ls) (x y : Int) (st : List am_V) (h : am_H) : am_go0 cl 157 294 ls (.inl y :: .inl x :: st) h = am_go0 cl 157 295 ls (.inl (am_wr (x * y)) :: st) h := am_r am_m157 d_157_294 rfl
theorem d_157_295 : am_code 157 295 = some (.iload 8, 2) := by decide +kernel
theorem s_157_295 (cl : am_C) (a0 a1 a2 a3 a4 a5 a6 a7 a9 a10 a11 a12 a13 : Option am_V) (x : Int) (st : List am_V) (h : am_H) : am_go0 cl 157 295 [a0, a1, a2, a3, a4, a5, a6, a7, some (.inl x), a9, a10, a11, a12, a13] st h = am_go0 cl 157 297 [a0, a1, a2, a3, a4, a5, a6, a7, some (.inl x), a9, a10, a11, a12, a13] (.inl x :: st) h := am_r am_m157 d_157_295 rfl
theorem d_157_297 : am_code 157 297 = some (.iadd, 1) := by decide +kernel
theorem s_157_297 (cl : am_C) (ls : am_Ls) (x y : Int) (st : List am_V) (h : am_H) : am_go0 cl 157 297 ls (.inl y :: .inl x :: st) h = am_go0 cl 157 298 ls (.inl (am_wr (x + y)) :: st) h := am_r am_m157 d_157_297 rfl
theorem d_157_298 : am_code 157 298 = some (.iload 13, 2) := by decide +kernel
theorem s_157_298 (cl : am_C) (a0 a1 a2 a3 a4 a5 a6 a7 a8 a9 a10 a11 a12 : Option am_V) (x : Int) (st : List am_V) (h : am_H) : am_go0 cl 157 298 [a0, a1, a2, a3, a4, a5, a6, a7, a8, a9, a10, a11, a12, some (.inl x)] st h = am_go0 cl 157 300 [a0, a1, a2, a3, a4, a5, a6, a7, a8, a9, a10, a11, a12, some (.inl x)] (.inl x :: st) h := am_r am_m157 d_157_298 rfl
theorem d_157_300 : am_code 157 300 = some (.iastore, 1) := by decide +kernel
theorem s_157_300 (cl : am_C) (ls : am_Ls) (i : Int) (v : Int) (k : Nat) (st : List am_V) (N : Nat) (I : Nat → Int → Int) (L : Nat → Int → Int64) : am_go0 cl 157 300 ls (.inl v :: .inl i :: .inr (.inr (some k)) :: st) (am_GS N, am_GR, I, L) = if am_inb (am_GS N) k 0 i = true then am_go0 cl 157 301 ls st (am_GS N, am_GR, am_uI I k i v, L) else none := am_rS am_m157 d_157_300 rfl k ls st i v _ _ I L
theorem d_157_301 : am_code 157 301 = some (.goto (-247), 3) := by decide +kernel
theorem s_157_301 (cl : am_C) (ls : am_Ls) (st : List am_V) (h : am_H) : am_go0 cl 157 301 ls st h = am_go0 cl 157 54 ls st h := am_rGo am_m157 d_157_301 (by decide) _ _ _
theorem d_157_304 : am_code 157 304 = some (.iload 5, 2) := by decide +kernel
theorem s_157_304 (cl : am_C) (a0 a1 a2 a3 a4 a6 a7 a8 a9 a10 a11 a12 a13 : Option am_V) (x : Int) (st : List am_V) (h : am_H) : am_go0 cl 157 304 [a0, a1, a2, a3, a4, some (.inl x), a6, a7, a8, a9, a10, a11, a12, a13] st h = am_go0 cl 157 306 [a0, a1, a2, a3, a4, some (.inl x), a6, a7, a8, a9, a10, a11, a12, a13] (.inl x :: st) h := am_r am_m157 d_157_304 rfl
theorem d_157_306 : am_code 157 306 = some (.ireturn, 1) := by decide +kernel
theorem s_157_306 (cl : am_C) (ls : am_Ls) (x : Int) (h : am_H) : am_go0 cl 157 306 ls [.inl x] h = some (some (.inl x), h) := am_rE am_m157 d_157_306 rfl
theorem e_157 (d : Nat) (t : Nat) (p0 : Int) (p1 : Int) (h : am_H) : am_call (d + 1) 157 [.inr (.inr (some t)), .inl p0, .inl p1] h = am_go0 (am_call d) 157 0 [some (.inr (.inr (some t))), some (.inl p0), some (.inl p1), none, none, none, none, none, none, none, none, none, none, none] [] h := am_callE am_m157 (Nat.le_of_ble_eq_true rfl) rfl
theorem d_158_0 : am_code 158 0 = some (.iconst 0, 1) := by decide +kernel
theorem s_158_0 (cl : am_C) (ls : am_Ls) (st : List am_V) (h : am_H) : am_go0 cl 158 0 ls st h = am_go0 cl 158 1 ls (.inl 0 :: st) h := am_rK am_m158 d_158_0 (by decide) rfl _ _ _
theorem d_158_1 : am_code 158 1 = some (.istore_n 3, 1) := by decide +kernel
theorem s_158_1 (cl : am_C) (a0 a1 a2 a3 : Option am_V) (x : Int) (st : List am_V) (h : am_H) : am_go0 cl 158 1 [a0, a1, a2, a3] (.inl x :: st) h = am_go0 cl 158 2 [a0, a1, am_c1 a2, some (.inl x)] st h := am_r am_m158 d_158_1 rfl
theorem d_158_2 : am_code 158 2 = some (.iload_n 3, 1) := by decide +kernel
theorem s_158_2 (cl : am_C) (a0 a1 a2 : Option am_V) (x : Int) (st : List am_V) (h : am_H) : am_go0 cl 158 2 [a0, a1, a2, some (.inl x)] st h = am_go0 cl 158 3 [a0, a1, a2, some (.inl x)] (.inl x :: st) h := am_r am_m158 d_158_2 rfl
theorem d_158_3 : am_code 158 3 = some (.aload_n 0, 1) := by decide +kernel
theorem s_158_3 (cl : am_C) (a1 a2 a3 : Option am_V) (x : Nat) (st : List am_V) (h : am_H) : am_go0 cl 158 3 [some (.inr (.inr (some x))), a1, a2, a3] st h = am_go0 cl 158 4 [some (.inr (.inr (some x))), a1, a2, a3] (.inr (.inr (some x)) :: st) h := am_r am_m158 d_158_3 rfl
theorem d_158_4 : am_code 158 4 = some (.getfield 172, 3) := by decide +kernel
theorem s_158_4 (cl : am_C) (ls : am_Ls) (st : List am_V) (N : Nat) (I : Nat → Int → Int) (L : Nat → Int → Int64) : am_go0 cl 158 4 ls (.inr (.inr (some 53)) :: st) (am_GS N, am_GR, I, L) = am_go0 cl 158 7 ls (.inl (I 53 28) :: st) (am_GS N, am_GR, I, L) := am_rG0 am_m158 d_158_4 am_f9172 rfl (gs_53 N) (by decide) rfl
theorem d_158_7 : am_code 158 7 = some (.if_icmp .ge 31, 3) := by decide +kernel
theorem s_158_7 (cl : am_C) (ls : am_Ls) (x y : Int) (st : List am_V) (h : am_H) : am_go0 cl 158 7 ls (.inl y :: .inl x :: st) h = if x < y then am_go0 cl 158 10 ls st h else am_go0 cl 158 38 ls st h := (am_rJ0 am_m158 d_158_7 (by decide) rfl x y ls st h).trans (am_ifF ((am_cmp_ge x y).trans Int.not_lt.symm) _ _)
theorem d_158_10 : am_code 158 10 = some (.aload_n 0, 1) := by decide +kernel
theorem s_158_10 (cl : am_C) (a1 a2 a3 : Option am_V) (x : Nat) (st : List am_V) (h : am_H) : am_go0 cl 158 10 [some (.inr (.inr (some x))), a1, a2, a3] st h = am_go0 cl 158 11 [some (.inr (.inr (some x))), a1, a2, a3] (.inr (.inr (some x)) :: st) h := am_r am_m158 d_158_10 rfl
theorem d_158_11 : am_code 158 11 = some (.getfield 84, 3) := by decide +kernel
theorem s_158_11 (cl : am_C) (ls : am_Ls) (st : List am_V) (N : Nat) (I : Nat → Int → Int) (L : Nat → Int → Int64) : am_go0 cl 158 11 ls (.inr (.inr (some 53)) :: st) (am_GS N, am_GR, I, L) = am_go0 cl 158 14 ls (.inr (.inr (some 77)) :: st) (am_GS N, am_GR, I, L) := am_rG2 am_m158 d_158_11 am_f9084 rfl (gs_53 N) (by decide) gr_53_29 rfl
theorem d_158_14 : am_code 158 14 = some (.iload_n 3, 1) := by decide +kernel
theorem s_158_14 (cl : am_C) (a0 a1 a2 : Option am_V) (x : Int) (st : List am_V) (h : am_H) : am_go0 cl 158 14 [a0, a1, a2, some (.inl x)] st h = am_go0 cl 158 15 [a0, a1, a2, some (.inl x)] (.inl x :: st) h := am_r am_m158 d_158_14 rfl
theorem d_158_15 : am_code 158 15 = some (.iaload, 1) := by decide +kernel
theorem s_158_15 (cl : am_C) (ls : am_Ls) (i : Int) (k : Nat) (st : List am_V) (N : Nat) (I : Nat → Int → Int) (L : Nat → Int → Int64) : am_go0 cl 158 15 ls (.inl i :: .inr (.inr (some k)) :: st) (am_GS N, am_GR, I, L) = if am_inb (am_GS N) k 0 i = true then am_go0 cl 158 16 ls (.inl (I k i) :: st) (am_GS N, am_GR, I, L) else none := am_rA am_m158 d_158_15 (by decide) rfl k ls st i _ _ I L
theorem d_158_16 : am_code 158 16 = some (.iload_n 1, 1) := by decide +kernel
theorem s_158_16 (cl : am_C) (a0 a2 a3 : Option am_V) (x : Int) (st : List am_V) (h : am_H) : am_go0 cl 158 16 [a0, some (.inl x), a2, a3] st h = am_go0 cl 158 17 [a0, some (.inl x), a2, a3] (.inl x :: st) h := am_r am_m158 d_158_16 rfl
theorem d_158_17 : am_code 158 17 = some (.if_icmp .ne 15, 3) := by decide +kernel
theorem s_158_17 (cl : am_C) (ls : am_Ls) (x y : Int) (st : List am_V) (h : am_H) : am_go0 cl 158 17 ls (.inl y :: .inl x :: st) h = if x = y then am_go0 cl 158 20 ls st h else am_go0 cl 158 32 ls st h := (am_rJ0 am_m158 d_158_17 (by decide) rfl x y ls st h).trans (am_ifF ((am_cmp_ne x y).trans Iff.rfl) _ _)
theorem d_158_20 : am_code 158 20 = some (.aload_n 0, 1) := by decide +kernel
theorem s_158_20 (cl : am_C) (a1 a2 a3 : Option am_V) (x : Nat) (st : List am_V) (h : am_H) : am_go0 cl 158 20 [some (.inr (.inr (some x))), a1, a2, a3] st h = am_go0 cl 158 21 [some (.inr (.inr (some x))), a1, a2, a3] (.inr (.inr (some x)) :: st) h := am_r am_m158 d_158_20 rfl
theorem d_158_21 : am_code 158 21 = some (.getfield 87, 3) := by decide +kernel
theorem s_158_21 (cl : am_C) (ls : am_Ls) (st : List am_V) (N : Nat) (I : Nat → Int → Int) (L : Nat → Int → Int64) : am_go0 cl 158 21 ls (.inr (.inr (some 53)) :: st) (am_GS N, am_GR, I, L) = am_go0 cl 158 24 ls (.inr (.inr (some 78)) :: st) (am_GS N, am_GR, I, L) := am_rG2 am_m158 d_158_21 am_f9087 rfl (gs_53 N) (by decide) gr_53_30 rfl
theorem d_158_24 : am_code 158 24 = some (.iload_n 3, 1) := by decide +kernel
theorem s_158_24 (cl : am_C) (a0 a1 a2 : Option am_V) (x : Int) (st : List am_V) (h : am_H) : am_go0 cl 158 24 [a0, a1, a2, some (.inl x)] st h = am_go0 cl 158 25 [a0, a1, a2, some (.inl x)] (.inl x :: st) h := am_r am_m158 d_158_24 rfl
theorem d_158_25 : am_code 158 25 = some (.iaload, 1) := by decide +kernel
theorem s_158_25 (cl : am_C) (ls : am_Ls) (i : Int) (k : Nat) (st : List am_V) (N : Nat) (I : Nat → Int → Int) (L : Nat → Int → Int64) : am_go0 cl 158 25 ls (.inl i :: .inr (.inr (some k)) :: st) (am_GS N, am_GR, I, L) = if am_inb (am_GS N) k 0 i = true then am_go0 cl 158 26 ls (.inl (I k i) :: st) (am_GS N, am_GR, I, L) else none := am_rA am_m158 d_158_25 (by decide) rfl k ls st i _ _ I L
theorem d_158_26 : am_code 158 26 = some (.iload_n 2, 1) := by decide +kernel
theorem s_158_26 (cl : am_C) (a0 a1 a3 : Option am_V) (x : Int) (st : List am_V) (h : am_H) : am_go0 cl 158 26 [a0, a1, some (.inl x), a3] st h = am_go0 cl 158 27 [a0, a1, some (.inl x), a3] (.inl x :: st) h := am_r am_m158 d_158_26 rfl
theorem d_158_27 : am_code 158 27 = some (.if_icmp .ne 5, 3) := by decide +kernel
theorem s_158_27 (cl : am_C) (ls : am_Ls) (x y : Int) (st : List am_V) (h : am_H) : am_go0 cl 158 27 ls (.inl y :: .inl x :: st) h = if x = y then am_go0 cl 158 30 ls st h else am_go0 cl 158 32 ls st h := (am_rJ0 am_m158 d_158_27 (by decide) rfl x y ls st h).trans (am_ifF ((am_cmp_ne x y).trans Iff.rfl) _ _)
theorem d_158_30 : am_code 158 30 = some (.iload_n 3, 1) := by decide +kernel
theorem s_158_30 (cl : am_C) (a0 a1 a2 : Option am_V) (x : Int) (st : List am_V) (h : am_H) : am_go0 cl 158 30 [a0, a1, a2, some (.inl x)] st h = am_go0 cl 158 31 [a0, a1, a2, some (.inl x)] (.inl x :: st) h := am_r am_m158 d_158_30 rfl
theorem d_158_31 : am_code 158 31 = some (.ireturn, 1) := by decide +kernel
theorem s_158_31 (cl : am_C) (ls : am_Ls) (x : Int) (h : am_H) : am_go0 cl 158 31 ls [.inl x] h = some (some (.inl x), h) := am_rE am_m158 d_158_31 rfl
theorem d_158_32 : am_code 158 32 = some (.iinc 3 1, 3) := by decide +kernel
theorem s_158_32 (cl : am_C) (a0 a1 a2 : Option am_V) (x : Int) (st : List am_V) (h : am_H) : am_go0 cl 158 32 [a0, a1, a2, some (.inl x)] st h = am_go0 cl 158 35 [a0, a1, am_c1 a2, some (.inl (am_wr (x + 1)))] st h := am_r am_m158 d_158_32 rfl
theorem d_158_35 : am_code 158 35 = some (.goto (-33), 3) := by decide +kernel
theorem s_158_35 (cl : am_C) (ls : am_Ls) (st : List am_V) (h : am_H) : am_go0 cl 158 35 ls st h = am_go0 cl 158 2 ls st h := am_rGo am_m158 d_158_35 (by decide) _ _ _
theorem d_158_38 : am_code 158 38 = some (.iconst (-1), 1) := by decide +kernel
theorem s_158_38 (cl : am_C) (ls : am_Ls) (st : List am_V) (h : am_H) : am_go0 cl 158 38 ls st h = am_go0 cl 158 39 ls (.inl (-1) :: st) h := am_rK am_m158 d_158_38 (by decide) rfl _ _ _
theorem d_158_39 : am_code 158 39 = some (.ireturn, 1) := by decide +kernel
theorem s_158_39 (cl : am_C) (ls : am_Ls) (x : Int) (h : am_H) : am_go0 cl 158 39 ls [.inl x] h = some (some (.inl x), h) := am_rE am_m158 d_158_39 rfl
theorem e_158 (d : Nat) (t : Nat) (p0 : Int) (p1 : Int) (h : am_H) : am_call (d + 1) 158 [.inr (.inr (some t)), .inl p0, .inl p1] h = am_go0 (am_call d) 158 0 [some (.inr (.inr (some t))), some (.inl p0), some (.inl p1), none] [] h := am_callE am_m158 (Nat.le_of_ble_eq_true rfl) rfl
theorem d_159_0 : am_code 159 0 = some (.aload_n 0, 1) := by decide +kernel
theorem s_159_0 (cl : am_C) (a1 a2 a3 a4 a5 : Option am_V) (x : Nat) (st : List am_V) (h : am_H) : am_go0 cl 159 0 [some (.inr (.inr (some x))), a1, a2, a3, a4, a5] st h = am_go0 cl 159 1 [some (.inr (.inr (some x))), a1, a2, a3, a4, a5] (.inr (.inr (some x)) :: st) h := am_r am_m159 d_159_0 rfl
theorem d_159_1 : am_code 159 1 = some (.iload_n 1, 1) := by decide +kernel
theorem s_159_1 (cl : am_C) (a0 a2 a3 a4 a5 : Option am_V) (x : Int) (st : List am_V) (h : am_H) : am_go0 cl 159 1 [a0, some (.inl x), a2, a3, a4, a5] st h = am_go0 cl 159 2 [a0, some (.inl x), a2, a3, a4, a5] (.inl x :: st) h := am_r am_m159 d_159_1 rfl
theorem d_159_2 : am_code 159 2 = some (.aload_n 0, 1) := by decide +kernel
theorem s_159_2 (cl : am_C) (a1 a2 a3 a4 a5 : Option am_V) (x : Nat) (st : List am_V) (h : am_H) : am_go0 cl 159 2 [some (.inr (.inr (some x))), a1, a2, a3, a4, a5] st h = am_go0 cl 159 3 [some (.inr (.inr (some x))), a1, a2, a3, a4, a5] (.inr (.inr (some x)) :: st) h := am_r am_m159 d_159_2 rfl
theorem d_159_3 : am_code 159 3 = some (.getfield 17, 3) := by decide +kernel
theorem s_159_3 (cl : am_C) (ls : am_Ls) (st : List am_V) (N : Nat) (I : Nat → Int → Int) (L : Nat → Int → Int64) : am_go0 cl 159 3 ls (.inr (.inr (some 53)) :: st) (am_GS N, am_GR, I, L) = am_go0 cl 159 6 ls (.inr (.inr (some 55)) :: st) (am_GS N, am_GR, I, L) := am_rG2 am_m159 d_159_3 am_f9017 rfl (gs_53 N) (by decide) gr_53_3 rfl
theorem d_159_6 : am_code 159 6 = some (.iload_n 2, 1) := by decide +kernel
theorem s_159_6 (cl : am_C) (a0 a1 a3 a4 a5 : Option am_V) (x : Int) (st : List am_V) (h : am_H) : am_go0 cl 159 6 [a0, a1, some (.inl x), a3, a4, a5] st h = am_go0 cl 159 7 [a0, a1, some (.inl x), a3, a4, a5] (.inl x :: st) h := am_r am_m159 d_159_6 rfl
theorem d_159_7 : am_code 159 7 = some (.iaload, 1) := by decide +kernel
theorem s_159_7 (cl : am_C) (ls : am_Ls) (i : Int) (k : Nat) (st : List am_V) (N : Nat) (I : Nat → Int → Int) (L : Nat → Int → Int64) : am_go0 cl 159 7 ls (.inl i :: .inr (.inr (some k)) :: st) (am_GS N, am_GR, I, L) = if am_inb (am_GS N) k 0 i = true then am_go0 cl 159 8 ls (.inl (I k i) :: st) (am_GS N, am_GR, I, L) else none := am_rA am_m159 d_159_7 (by decide) rfl k ls st i _ _ I L
theorem d_159_8 : am_code 159 8 = some (.invokevirtual 182, 3) := by decide +kernel
theorem s_159_8 (cl : am_C) (ls : am_Ls) (x0 : Int) (x1 : Int) (N : Nat) (I : Nat → Int → Int) (L : Nat → Int → Int64) : am_go0 cl 159 8 ls [.inl x1, .inl x0, .inr (.inr (some 53))] (am_GS N, am_GR, I, L) = am_bd (cl 145 [.inr (.inr (some 53)), .inl x0, .inl x1] (am_GS N, am_GR, I, L)) (fun v h2 => am_go0 cl 159 11 ls (v.toList ++ []) h2) := am_rV am_m159 d_159_8 am_k9182 rfl am_m145 (gs_53 N) (by decide) (Nat.le_of_ble_eq_true rfl) rfl ls
theorem d_159_11 : am_code 159 11 = some (.istore_n 3, 1) := by decide +kernel
theorem s_159_11 (cl : am_C) (a0 a1 a2 a3 a4 a5 : Option am_V) (x : Int) (st : List am_V) (h : am_H) : am_go0 cl 159 11 [a0, a1, a2, a3, a4, a5] (.inl x :: st) h = am_go0 cl 159 12 [a0, a1, am_c1 a2, some (.inl x), a4, a5] st h := am_r am_m159 d_159_11 rfl
theorem d_159_12 : am_code 159 12 = some (.iload_n 3, 1) := by decide +kernel
theorem s_159_12 (cl : am_C) (a0 a1 a2 a4 a5 : Option am_V) (x : Int) (st : List am_V) (h : am_H) : am_go0 cl 159 12 [a0, a1, a2, some (.inl x), a4, a5] st h = am_go0 cl 159 13 [a0, a1, a2, some (.inl x), a4, a5] (.inl x :: st) h := am_r am_m159 d_159_12 rfl
theorem d_159_13 : am_code 159 13 = some (.iconst (-1), 1) := by decide +kernel
theorem s_159_13 (cl : am_C) (ls : am_Ls) (st : List am_V) (h : am_H) : am_go0 cl 159 13 ls st h = am_go0 cl 159 14 ls (.inl (-1) :: st) h := am_rK am_m159 d_159_13 (by decide) rfl _ _ _
theorem d_159_14 : am_code 159 14 = some (.if_icmp .ne 16, 3) := by decide +kernel
theorem s_159_14 (cl : am_C) (ls : am_Ls) (x y : Int) (st : List am_V) (h : am_H) : am_go0 cl 159 14 ls (.inl y :: .inl x :: st) h = if x = y then am_go0 cl 159 17 ls st h else am_go0 cl 159 30 ls st h := (am_rJ0 am_m159 d_159_14 (by decide) rfl x y ls st h).trans (am_ifF ((am_cmp_ne x y).trans Iff.rfl) _ _)
theorem d_159_17 : am_code 159 17 = some (.aload_n 0, 1) := by decide +kernel
theorem s_159_17 (cl : am_C) (a1 a2 a3 a4 a5 : Option am_V) (x : Nat) (st : List am_V) (h : am_H) : am_go0 cl 159 17 [some (.inr (.inr (some x))), a1, a2, a3, a4, a5] st h = am_go0 cl 159 18 [some (.inr (.inr (some x))), a1, a2, a3, a4, a5] (.inr (.inr (some x)) :: st) h := am_r am_m159 d_159_17 rfl
theorem d_159_18 : am_code 159 18 = some (.iload_n 1, 1) := by decide +kernel
theorem s_159_18 (cl : am_C) (a0 a2 a3 a4 a5 : Option am_V) (x : Int) (st : List am_V) (h : am_H) : am_go0 cl 159 18 [a0, some (.inl x), a2, a3, a4, a5] st h = am_go0 cl 159 19 [a0, some (.inl x), a2, a3, a4, a5] (.inl x :: st) h := am_r am_m159 d_159_18 rfl
theorem d_159_19 : am_code 159 19 = some (.putfield 109, 3) := by decide +kernel
theorem s_159_19 (cl : am_C) (ls : am_Ls) (v : Int) (st : List am_V) (N : Nat) (I : Nat → Int → Int) (L : Nat → Int → Int64) : am_go0 cl 159 19 ls (.inl v :: .inr (.inr (some 53)) :: st) (am_GS N, am_GR, I, L) = am_go0 cl 159 22 ls st (am_GS N, am_GR, am_uI I 53 37 v, L) := am_rP0 am_m159 d_159_19 am_f9109 rfl (gs_53 N) (by decide) rfl
theorem d_159_22 : am_code 159 22 = some (.aload_n 0, 1) := by decide +kernel
theorem s_159_22 (cl : am_C) (a1 a2 a3 a4 a5 : Option am_V) (x : Nat) (st : List am_V) (h : am_H) : am_go0 cl 159 22 [some (.inr (.inr (some x))), a1, a2, a3, a4, a5] st h = am_go0 cl 159 23 [some (.inr (.inr (some x))), a1, a2, a3, a4, a5] (.inr (.inr (some x)) :: st) h := am_r am_m159 d_159_22 rfl
theorem d_159_23 : am_code 159 23 = some (.iload_n 2, 1) := by decide +kernel
theorem s_159_23 (cl : am_C) (a0 a1 a3 a4 a5 : Option am_V) (x : Int) (st : List am_V) (h : am_H) : am_go0 cl 159 23 [a0, a1, some (.inl x), a3, a4, a5] st h = am_go0 cl 159 24 [a0, a1, some (.inl x), a3, a4, a5] (.inl x :: st) h := am_r am_m159 d_159_23 rfl
theorem d_159_24 : am_code 159 24 = some (.putfield 112, 3) := by decide +kernel
theorem s_159_24 (cl : am_C) (ls : am_Ls) (v : Int) (st : List am_V) (N : Nat) (I : Nat → Int → Int) (L : Nat → Int → Int64) : am_go0 cl 159 24 ls (.inl v :: .inr (.inr (some 53)) :: st) (am_GS N, am_GR, I, L) = am_go0 cl 159 27 ls st (am_GS N, am_GR, am_uI I 53 38 v, L) := am_rP0 am_m159 d_159_24 am_f9112 rfl (gs_53 N) (by decide) rfl
theorem d_159_27 : am_code 159 27 = some (.bipush (-4), 2) := by decide +kernel
theorem s_159_27 (cl : am_C) (ls : am_Ls) (st : List am_V) (h : am_H) : am_go0 cl 159 27 ls st h = am_go0 cl 159 29 ls (.inl (-4) :: st) h := am_rB am_m159 d_159_27 (by decide) rfl _ _ _
theorem d_159_29 : am_code 159 29 = some (.ireturn, 1) := by decide +kernel
theorem s_159_29 (cl : am_C) (ls : am_Ls) (x : Int) (h : am_H) : am_go0 cl 159 29 ls [.inl x] h = some (some (.inl x), h) := am_rE am_m159 d_159_29 rfl
theorem d_159_30 : am_code 159 30 = some (.aload_n 0, 1) := by decide +kernel
theorem s_159_30 (cl : am_C) (a1 a2 a3 a4 a5 : Option am_V) (x : Nat) (st : List am_V) (h : am_H) : am_go0 cl 159 30 [some (.inr (.inr (some x))), a1, a2, a3, a4, a5] st h = am_go0 cl 159 31 [some (.inr (.inr (some x))), a1, a2, a3, a4, a5] (.inr (.inr (some x)) :: st) h := am_r am_m159 d_159_30 rfl
theorem d_159_31 : am_code 159 31 = some (.getfield 172, 3) := by decide +kernel
theorem s_159_31 (cl : am_C) (ls : am_Ls) (st : List am_V) (N : Nat) (I : Nat → Int → Int) (L : Nat → Int → Int64) : am_go0 cl 159 31 ls (.inr (.inr (some 53)) :: st) (am_GS N, am_GR, I, L) = am_go0 cl 159 34 ls (.inl (I 53 28) :: st) (am_GS N, am_GR, I, L) := am_rG0 am_m159 d_159_31 am_f9172 rfl (gs_53 N) (by decide) rfl
theorem d_159_34 : am_code 159 34 = some (.bipush 60, 2) := by decide +kernel
theorem s_159_34 (cl : am_C) (ls : am_Ls) (st : List am_V) (h : am_H) : am_go0 cl 159 34 ls st h = am_go0 cl 159 36 ls (.inl 60 :: st) h := am_rB am_m159 d_159_34 (by decide) rfl _ _ _
theorem d_159_36 : am_code 159 36 = some (.if_icmp .ne 6, 3) := by decide +kernel
theorem s_159_36 (cl : am_C) (ls : am_Ls) (x y : Int) (st : List am_V) (h : am_H) : am_go0 cl 159 36 ls (.inl y :: .inl x :: st) h = if x = y then am_go0 cl 159 39 ls st h else am_go0 cl 159 42 ls st h := (am_rJ0 am_m159 d_159_36 (by decide) rfl x y ls st h).trans (am_ifF ((am_cmp_ne x y).trans Iff.rfl) _ _)
theorem d_159_39 : am_code 159 39 = some (.bipush (-3), 2) := by decide +kernel
theorem s_159_39 (cl : am_C) (ls : am_Ls) (st : List am_V) (h : am_H) : am_go0 cl 159 39 ls st h = am_go0 cl 159 41 ls (.inl (-3) :: st) h := am_rB am_m159 d_159_39 (by decide) rfl _ _ _
theorem d_159_41 : am_code 159 41 = some (.ireturn, 1) := by decide +kernel
theorem s_159_41 (cl : am_C) (ls : am_Ls) (x : Int) (h : am_H) : am_go0 cl 159 41 ls [.inl x] h = some (some (.inl x), h) := am_rE am_m159 d_159_41 rfl
theorem d_159_42 : am_code 159 42 = some (.aload_n 0, 1) := by decide +kernel
theorem s_159_42 (cl : am_C) (a1 a2 a3 a4 a5 : Option am_V) (x : Nat) (st : List am_V) (h : am_H) : am_go0 cl 159 42 [some (.inr (.inr (some x))), a1, a2, a3, a4, a5] st h = am_go0 cl 159 43 [some (.inr (.inr (some x))), a1, a2, a3, a4, a5] (.inr (.inr (some x)) :: st) h := am_r am_m159 d_159_42 rfl
theorem d_159_43 : am_code 159 43 = some (.getfield 172, 3) := by decide +kernel
theorem s_159_43 (cl : am_C) (ls : am_Ls) (st : List am_V) (N : Nat) (I : Nat → Int → Int) (L : Nat → Int → Int64) : am_go0 cl 159 43 ls (.inr (.inr (some 53)) :: st) (am_GS N, am_GR, I, L) = am_go0 cl 159 46 ls (.inl (I 53 28) :: st) (am_GS N, am_GR, I, L) := am_rG0 am_m159 d_159_43 am_f9172 rfl (gs_53 N) (by decide) rfl
theorem d_159_46 : am_code 159 46 = some (.istore 4, 2) := by decide +kernel
theorem s_159_46 (cl : am_C) (a0 a1 a2 a3 a4 a5 : Option am_V) (x : Int) (st : List am_V) (h : am_H) : am_go0 cl 159 46 [a0, a1, a2, a3, a4, a5] (.inl x :: st) h = am_go0 cl 159 48 [a0, a1, a2, am_c1 a3, some (.inl x), a5] st h := am_r am_m159 d_159_46 rfl
theorem d_159_48 : am_code 159 48 = some (.aload_n 0, 1) := by decide +kernel
theorem s_159_48 (cl : am_C) (a1 a2 a3 a4 a5 : Option am_V) (x : Nat) (st : List am_V) (h : am_H) : am_go0 cl 159 48 [some (.inr (.inr (some x))), a1, a2, a3, a4, a5] st h = am_go0 cl 159 49 [some (.inr (.inr (some x))), a1, a2, a3, a4, a5] (.inr (.inr (some x)) :: st) h := am_r am_m159 d_159_48 rfl
theorem d_159_49 : am_code 159 49 = some (.getfield 84, 3) := by decide +kernel
theorem s_159_49 (cl : am_C) (ls : am_Ls) (st : List am_V) (N : Nat) (I : Nat → Int → Int) (L : Nat → Int → Int64) : am_go0 cl 159 49 ls (.inr (.inr (some 53)) :: st) (am_GS N, am_GR, I, L) = am_go0 cl 159 52 ls (.inr (.inr (some 77)) :: st) (am_GS N, am_GR, I, L) := am_rG2 am_m159 d_159_49 am_f9084 rfl (gs_53 N) (by decide) gr_53_29 rfl
theorem d_159_52 : am_code 159 52 = some (.iload 4, 2) := by decide +kernel
theorem s_159_52 (cl : am_C) (a0 a1 a2 a3 a5 : Option am_V) (x : Int) (st : List am_V) (h : am_H) : am_go0 cl 159 52 [a0, a1, a2, a3, some (.inl x), a5] st h = am_go0 cl 159 54 [a0, a1, a2, a3, some (.inl x), a5] (.inl x :: st) h := am_r am_m159 d_159_52 rfl
theorem d_159_54 : am_code 159 54 = some (.iload_n 1, 1) := by decide +kernel
theorem s_159_54 (cl : am_C) (a0 a2 a3 a4 a5 : Option am_V) (x : Int) (st : List am_V) (h : am_H) : am_go0 cl 159 54 [a0, some (.inl x), a2, a3, a4, a5] st h = am_go0 cl 159 55 [a0, some (.inl x), a2, a3, a4, a5] (.inl x :: st) h := am_r am_m159 d_159_54 rfl
theorem d_159_55 : am_code 159 55 = some (.iastore, 1) := by decide +kernel
theorem s_159_55 (cl : am_C) (ls : am_Ls) (i : Int) (v : Int) (k : Nat) (st : List am_V) (N : Nat) (I : Nat → Int → Int) (L : Nat → Int → Int64) : am_go0 cl 159 55 ls (.inl v :: .inl i :: .inr (.inr (some k)) :: st) (am_GS N, am_GR, I, L) = if am_inb (am_GS N) k 0 i = true then am_go0 cl 159 56 ls st (am_GS N, am_GR, am_uI I k i v, L) else none := am_rS am_m159 d_159_55 rfl k ls st i v _ _ I L
theorem d_159_56 : am_code 159 56 = some (.aload_n 0, 1) := by decide +kernel
theorem s_159_56 (cl : am_C) (a1 a2 a3 a4 a5 : Option am_V) (x : Nat) (st : List am_V) (h : am_H) : am_go0 cl 159 56 [some (.inr (.inr (some x))), a1, a2, a3, a4, a5] st h = am_go0 cl 159 57 [some (.inr (.inr (some x))), a1, a2, a3, a4, a5] (.inr (.inr (some x)) :: st) h := am_r am_m159 d_159_56 rfl
theorem d_159_57 : am_code 159 57 = some (.getfield 87, 3) := by decide +kernel
theorem s_159_57 (cl : am_C) (ls : am_Ls) (st : List am_V) (N : Nat) (I : Nat → Int → Int) (L : Nat → Int → Int64) : am_go0 cl 159 57 ls (.inr (.inr (some 53)) :: st) (am_GS N, am_GR, I, L) = am_go0 cl 159 60 ls (.inr (.inr (some 78)) :: st) (am_GS N, am_GR, I, L) := am_rG2 am_m159 d_159_57 am_f9087 rfl (gs_53 N) (by decide) gr_53_30 rfl
theorem d_159_60 : am_code 159 60 = some (.iload 4, 2) := by decide +kernel
theorem s_159_60 (cl : am_C) (a0 a1 a2 a3 a5 : Option am_V) (x : Int) (st : List am_V) (h : am_H) : am_go0 cl 159 60 [a0, a1, a2, a3, some (.inl x), a5] st h = am_go0 cl 159 62 [a0, a1, a2, a3, some (.inl x), a5] (.inl x :: st) h := am_r am_m159 d_159_60 rfl
theorem d_159_62 : am_code 159 62 = some (.iload_n 2, 1) := by decide +kernel
theorem s_159_62 (cl : am_C) (a0 a1 a3 a4 a5 : Option am_V) (x : Int) (st : List am_V) (h : am_H) : am_go0 cl 159 62 [a0, a1, some (.inl x), a3, a4, a5] st h = am_go0 cl 159 63 [a0, a1, some (.inl x), a3, a4, a5] (.inl x :: st) h := am_r am_m159 d_159_62 rfl
theorem d_159_63 : am_code 159 63 = some (.iastore, 1) := by decide +kernel
theorem s_159_63 (cl : am_C) (ls : am_Ls) (i : Int) (v : Int) (k : Nat) (st : List am_V) (N : Nat) (I : Nat → Int → Int) (L : Nat → Int → Int64) : am_go0 cl 159 63 ls (.inl v :: .inl i :: .inr (.inr (some k)) :: st) (am_GS N, am_GR, I, L) = if am_inb (am_GS N) k 0 i = true then am_go0 cl 159 64 ls st (am_GS N, am_GR, am_uI I k i v, L) else none := am_rS am_m159 d_159_63 rfl k ls st i v _ _ I L
theorem d_159_64 : am_code 159 64 = some (.aload_n 0, 1) := by decide +kernel
theorem s_159_64 (cl : am_C) (a1 a2 a3 a4 a5 : Option am_V) (x : Nat) (st : List am_V) (h : am_H) : am_go0 cl 159 64 [some (.inr (.inr (some x))), a1, a2, a3, a4, a5] st h = am_go0 cl 159 65 [some (.inr (.inr (some x))), a1, a2, a3, a4, a5] (.inr (.inr (some x)) :: st) h := am_r am_m159 d_159_64 rfl
theorem d_159_65 : am_code 159 65 = some (.getfield 90, 3) := by decide +kernel
theorem s_159_65 (cl : am_C) (ls : am_Ls) (st : List am_V) (N : Nat) (I : Nat → Int → Int) (L : Nat → Int → Int64) : am_go0 cl 159 65 ls (.inr (.inr (some 53)) :: st) (am_GS N, am_GR, I, L) = am_go0 cl 159 68 ls (.inr (.inr (some 79)) :: st) (am_GS N, am_GR, I, L) := am_rG2 am_m159 d_159_65 am_f9090 rfl (gs_53 N) (by decide) gr_53_31 rfl
theorem d_159_68 : am_code 159 68 = some (.iload 4, 2) := by decide +kernel
theorem s_159_68 (cl : am_C) (a0 a1 a2 a3 a5 : Option am_V) (x : Int) (st : List am_V) (h : am_H) : am_go0 cl 159 68 [a0, a1, a2, a3, some (.inl x), a5] st h = am_go0 cl 159 70 [a0, a1, a2, a3, some (.inl x), a5] (.inl x :: st) h := am_r am_m159 d_159_68 rfl
theorem d_159_70 : am_code 159 70 = some (.iload_n 3, 1) := by decide +kernel
theorem s_159_70 (cl : am_C) (a0 a1 a2 a4 a5 : Option am_V) (x : Int) (st : List am_V) (h : am_H) : am_go0 cl 159 70 [a0, a1, a2, some (.inl x), a4, a5] st h = am_go0 cl 159 71 [a0, a1, a2, some (.inl x), a4, a5] (.inl x :: st) h := am_r am_m159 d_159_70 rfl
theorem d_159_71 : am_code 159 71 = some (.iastore, 1) := by decide +kernel
theorem s_159_71 (cl : am_C) (ls : am_Ls) (i : Int) (v : Int) (k : Nat) (st : List am_V) (N : Nat) (I : Nat → Int → Int) (L : Nat → Int → Int64) : am_go0 cl 159 71 ls (.inl v :: .inl i :: .inr (.inr (some k)) :: st) (am_GS N, am_GR, I, L) = if am_inb (am_GS N) k 0 i = true then am_go0 cl 159 72 ls st (am_GS N, am_GR, am_uI I k i v, L) else none := am_rS am_m159 d_159_71 rfl k ls st i v _ _ I L
theorem d_159_72 : am_code 159 72 = some (.iconst 0, 1) := by decide +kernel
theorem s_159_72 (cl : am_C) (ls : am_Ls) (st : List am_V) (h : am_H) : am_go0 cl 159 72 ls st h = am_go0 cl 159 73 ls (.inl 0 :: st) h := am_rK am_m159 d_159_72 (by decide) rfl _ _ _
theorem d_159_73 : am_code 159 73 = some (.istore 5, 2) := by decide +kernel
theorem s_159_73 (cl : am_C) (a0 a1 a2 a3 a4 a5 : Option am_V) (x : Int) (st : List am_V) (h : am_H) : am_go0 cl 159 73 [a0, a1, a2, a3, a4, a5] (.inl x :: st) h = am_go0 cl 159 75 [a0, a1, a2, a3, am_c1 a4, some (.inl x)] st h := am_r am_m159 d_159_73 rfl
theorem d_159_75 : am_code 159 75 = some (.iload 5, 2) := by decide +kernel
theorem s_159_75 (cl : am_C) (a0 a1 a2 a3 a4 : Option am_V) (x : Int) (st : List am_V) (h : am_H) : am_go0 cl 159 75 [a0, a1, a2, a3, a4, some (.inl x)] st h = am_go0 cl 159 77 [a0, a1, a2, a3, a4, some (.inl x)] (.inl x :: st) h := am_r am_m159 d_159_75 rfl
theorem d_159_77 : am_code 159 77 = some (.iconst 4, 1) := by decide +kernel
theorem s_159_77 (cl : am_C) (ls : am_Ls) (st : List am_V) (h : am_H) : am_go0 cl 159 77 ls st h = am_go0 cl 159 78 ls (.inl 4 :: st) h := am_rK am_m159 d_159_77 (by decide) rfl _ _ _
theorem d_159_78 : am_code 159 78 = some (.if_icmp .ge 48, 3) := by decide +kernel
theorem s_159_78 (cl : am_C) (ls : am_Ls) (x y : Int) (st : List am_V) (h : am_H) : am_go0 cl 159 78 ls (.inl y :: .inl x :: st) h = if x < y then am_go0 cl 159 81 ls st h else am_go0 cl 159 126 ls st h := (am_rJ0 am_m159 d_159_78 (by decide) rfl x y ls st h).trans (am_ifF ((am_cmp_ge x y).trans Int.not_lt.symm) _ _)
theorem d_159_81 : am_code 159 81 = some (.aload_n 0, 1) := by decide +kernel
theorem s_159_81 (cl : am_C) (a1 a2 a3 a4 a5 : Option am_V) (x : Nat) (st : List am_V) (h : am_H) : am_go0 cl 159 81 [some (.inr (.inr (some x))), a1, a2, a3, a4, a5] st h = am_go0 cl 159 82 [some (.inr (.inr (some x))), a1, a2, a3, a4, a5] (.inr (.inr (some x)) :: st) h := am_r am_m159 d_159_81 rfl
theorem d_159_82 : am_code 159 82 = some (.getfield 96, 3) := by decide +kernel
theorem s_159_82 (cl : am_C) (ls : am_Ls) (st : List am_V) (N : Nat) (I : Nat → Int → Int) (L : Nat → Int → Int64) : am_go0 cl 159 82 ls (.inr (.inr (some 53)) :: st) (am_GS N, am_GR, I, L) = am_go0 cl 159 85 ls (.inr (.inr (some 81)) :: st) (am_GS N, am_GR, I, L) := am_rG2 am_m159 d_159_82 am_f9096 rfl (gs_53 N) (by decide) gr_53_33 rfl
theorem d_159_85 : am_code 159 85 = some (.iconst 4, 1) := by decide +kernel
theorem s_159_85 (cl : am_C) (ls : am_Ls) (st : List am_V) (h : am_H) : am_go0 cl 159 85 ls st h = am_go0 cl 159 86 ls (.inl 4 :: st) h := am_rK am_m159 d_159_85 (by decide) rfl _ _ _
theorem d_159_86 : am_code 159 86 = some (.iload 4, 2) := by decide +kernel
theorem s_159_86 (cl : am_C) (a0 a1 a2 a3 a5 : Option am_V) (x : Int) (st : List am_V) (h : am_H) : am_go0 cl 159 86 [a0, a1, a2, a3, some (.inl x), a5] st h = am_go0 cl 159 88 [a0, a1, a2, a3, some (.inl x), a5] (.inl x :: st) h := am_r am_m159 d_159_86 rfl
theorem d_159_88 : am_code 159 88 = some (.imul, 1) := by decide +kernel
theorem s_159_88 (cl : am_C) (ls : am_Ls) (x y : Int) (st : List am_V) (h : am_H) : am_go0 cl 159 88 ls (.inl y :: .inl x :: st) h = am_go0 cl 159 89 ls (.inl (am_wr (x * y)) :: st) h := am_r am_m159 d_159_88 rfl
theorem d_159_89 : am_code 159 89 = some (.iload 5, 2) := by decide +kernel
theorem s_159_89 (cl : am_C) (a0 a1 a2 a3 a4 : Option am_V) (x : Int) (st : List am_V) (h : am_H) : am_go0 cl 159 89 [a0, a1, a2, a3, a4, some (.inl x)] st h = am_go0 cl 159 91 [a0, a1, a2, a3, a4, some (.inl x)] (.inl x :: st) h := am_r am_m159 d_159_89 rfl
theorem d_159_91 : am_code 159 91 = some (.iadd, 1) := by decide +kernel
theorem s_159_91 (cl : am_C) (ls : am_Ls) (x y : Int) (st : List am_V) (h : am_H) : am_go0 cl 159 91 ls (.inl y :: .inl x :: st) h = am_go0 cl 159 92 ls (.inl (am_wr (x + y)) :: st) h := am_r am_m159 d_159_91 rfl
theorem d_159_92 : am_code 159 92 = some (.iconst 0, 1) := by decide +kernel
theorem s_159_92 (cl : am_C) (ls : am_Ls) (st : List am_V) (h : am_H) : am_go0 cl 159 92 ls st h = am_go0 cl 159 93 ls (.inl 0 :: st) h := am_rK am_m159 d_159_92 (by decide) rfl _ _ _
theorem d_159_93 : am_code 159 93 = some (.bastore, 1) := by decide +kernel
theorem s_159_93 (cl : am_C) (ls : am_Ls) (i : Int) (v : Int) (k : Nat) (st : List am_V) (N : Nat) (I : Nat → Int → Int) (L : Nat → Int → Int64) : am_go0 cl 159 93 ls (.inl v :: .inl i :: .inr (.inr (some k)) :: st) (am_GS N, am_GR, I, L) = if am_inb (am_GS N) k 2 i = true ∧ (v = 0 ∨ v = 1) then am_go0 cl 159 94 ls st (am_GS N, am_GR, am_uI I k i v, L) else none := am_rSb am_m159 d_159_93 rfl k ls st i v _ _ I L
theorem d_159_94 : am_code 159 94 = some (.aload_n 0, 1) := by decide +kernel
theorem s_159_94 (cl : am_C) (a1 a2 a3 a4 a5 : Option am_V) (x : Nat) (st : List am_V) (h : am_H) : am_go0 cl 159 94 [some (.inr (.inr (some x))), a1, a2, a3, a4, a5] st h = am_go0 cl 159 95 [some (.inr (.inr (some x))), a1, a2, a3, a4, a5] (.inr (.inr (some x)) :: st) h := am_r am_m159 d_159_94 rfl
theorem d_159_95 : am_code 159 95 = some (.getfield 99, 3) := by decide +kernel
theorem s_159_95 (cl : am_C) (ls : am_Ls) (st : List am_V) (N : Nat) (I : Nat → Int → Int) (L : Nat → Int → Int64) : am_go0 cl 159 95 ls (.inr (.inr (some 53)) :: st) (am_GS N, am_GR, I, L) = am_go0 cl 159 98 ls (.inr (.inr (some 82)) :: st) (am_GS N, am_GR, I, L) := am_rG2 am_m159 d_159_95 am_f9099 rfl (gs_53 N) (by decide) gr_53_34 rfl
theorem d_159_98 : am_code 159 98 = some (.iconst 4, 1) := by decide +kernel
theorem s_159_98 (cl : am_C) (ls : am_Ls) (st : List am_V) (h : am_H) : am_go0 cl 159 98 ls st h = am_go0 cl 159 99 ls (.inl 4 :: st) h := am_rK am_m159 d_159_98 (by decide) rfl _ _ _
theorem d_159_99 : am_code 159 99 = some (.iload 4, 2) := by decide +kernel
theorem s_159_99 (cl : am_C) (a0 a1 a2 a3 a5 : Option am_V) (x : Int) (st : List am_V) (h : am_H) : am_go0 cl 159 99 [a0, a1, a2, a3, some (.inl x), a5] st h = am_go0 cl 159 101 [a0, a1, a2, a3, some (.inl x), a5] (.inl x :: st) h := am_r am_m159 d_159_99 rfl
theorem d_159_101 : am_code 159 101 = some (.imul, 1) := by decide +kernel
theorem s_159_101 (cl : am_C) (ls : am_Ls) (x y : Int) (st : List am_V) (h : am_H) : am_go0 cl 159 101 ls (.inl y :: .inl x :: st) h = am_go0 cl 159 102 ls (.inl (am_wr (x * y)) :: st) h := am_r am_m159 d_159_101 rfl
theorem d_159_102 : am_code 159 102 = some (.iload 5, 2) := by decide +kernel
theorem s_159_102 (cl : am_C) (a0 a1 a2 a3 a4 : Option am_V) (x : Int) (st : List am_V) (h : am_H) : am_go0 cl 159 102 [a0, a1, a2, a3, a4, some (.inl x)] st h = am_go0 cl 159 104 [a0, a1, a2, a3, a4, some (.inl x)] (.inl x :: st) h := am_r am_m159 d_159_102 rfl
theorem d_159_104 : am_code 159 104 = some (.iadd, 1) := by decide +kernel
theorem s_159_104 (cl : am_C) (ls : am_Ls) (x y : Int) (st : List am_V) (h : am_H) : am_go0 cl 159 104 ls (.inl y :: .inl x :: st) h = am_go0 cl 159 105 ls (.inl (am_wr (x + y)) :: st) h := am_r am_m159 d_159_104 rfl
theorem d_159_105 : am_code 159 105 = some (.iconst 0, 1) := by decide +kernel
theorem s_159_105 (cl : am_C) (ls : am_Ls) (st : List am_V) (h : am_H) : am_go0 cl 159 105 ls st h = am_go0 cl 159 106 ls (.inl 0 :: st) h := am_rK am_m159 d_159_105 (by decide) rfl _ _ _
theorem d_159_106 : am_code 159 106 = some (.bastore, 1) := by decide +kernel
theorem s_159_106 (cl : am_C) (ls : am_Ls) (i : Int) (v : Int) (k : Nat) (st : List am_V) (N : Nat) (I : Nat → Int → Int) (L : Nat → Int → Int64) : am_go0 cl 159 106 ls (.inl v :: .inl i :: .inr (.inr (some k)) :: st) (am_GS N, am_GR, I, L) = if am_inb (am_GS N) k 2 i = true ∧ (v = 0 ∨ v = 1) then am_go0 cl 159 107 ls st (am_GS N, am_GR, am_uI I k i v, L) else none := am_rSb am_m159 d_159_106 rfl k ls st i v _ _ I L
theorem d_159_107 : am_code 159 107 = some (.aload_n 0, 1) := by decide +kernel
theorem s_159_107 (cl : am_C) (a1 a2 a3 a4 a5 : Option am_V) (x : Nat) (st : List am_V) (h : am_H) : am_go0 cl 159 107 [some (.inr (.inr (some x))), a1, a2, a3, a4, a5] st h = am_go0 cl 159 108 [some (.inr (.inr (some x))), a1, a2, a3, a4, a5] (.inr (.inr (some x)) :: st) h := am_r am_m159 d_159_107 rfl
theorem d_159_108 : am_code 159 108 = some (.getfield 106, 3) := by decide +kernel
theorem s_159_108 (cl : am_C) (ls : am_Ls) (st : List am_V) (N : Nat) (I : Nat → Int → Int) (L : Nat → Int → Int64) : am_go0 cl 159 108 ls (.inr (.inr (some 53)) :: st) (am_GS N, am_GR, I, L) = am_go0 cl 159 111 ls (.inr (.inr (some 84)) :: st) (am_GS N, am_GR, I, L) := am_rG2 am_m159 d_159_108 am_f9106 rfl (gs_53 N) (by decide) gr_53_36 rfl
theorem d_159_111 : am_code 159 111 = some (.iconst 4, 1) := by decide +kernel
theorem s_159_111 (cl : am_C) (ls : am_Ls) (st : List am_V) (h : am_H) : am_go0 cl 159 111 ls st h = am_go0 cl 159 112 ls (.inl 4 :: st) h := am_rK am_m159 d_159_111 (by decide) rfl _ _ _
theorem d_159_112 : am_code 159 112 = some (.iload 4, 2) := by decide +kernel
theorem s_159_112 (cl : am_C) (a0 a1 a2 a3 a5 : Option am_V) (x : Int) (st : List am_V) (h : am_H) : am_go0 cl 159 112 [a0, a1, a2, a3, some (.inl x), a5] st h = am_go0 cl 159 114 [a0, a1, a2, a3, some (.inl x), a5] (.inl x :: st) h := am_r am_m159 d_159_112 rfl
theorem d_159_114 : am_code 159 114 = some (.imul, 1) := by decide +kernel
theorem s_159_114 (cl : am_C) (ls : am_Ls) (x y : Int) (st : List am_V) (h : am_H) : am_go0 cl 159 114 ls (.inl y :: .inl x :: st) h = am_go0 cl 159 115 ls (.inl (am_wr (x * y)) :: st) h := am_r am_m159 d_159_114 rfl
theorem d_159_115 : am_code 159 115 = some (.iload 5, 2) := by decide +kernel
theorem s_159_115 (cl : am_C) (a0 a1 a2 a3 a4 : Option am_V) (x : Int) (st : List am_V) (h : am_H) : am_go0 cl 159 115 [a0, a1, a2, a3, a4, some (.inl x)] st h = am_go0 cl 159 117 [a0, a1, a2, a3, a4, some (.inl x)] (.inl x :: st) h := am_r am_m159 d_159_115 rfl
theorem d_159_117 : am_code 159 117 = some (.iadd, 1) := by decide +kernel
theorem s_159_117 (cl : am_C) (ls : am_Ls) (x y : Int) (st : List am_V) (h : am_H) : am_go0 cl 159 117 ls (.inl y :: .inl x :: st) h = am_go0 cl 159 118 ls (.inl (am_wr (x + y)) :: st) h := am_r am_m159 d_159_117 rfl
theorem d_159_118 : am_code 159 118 = some (.iconst 0, 1) := by decide +kernel
theorem s_159_118 (cl : am_C) (ls : am_Ls) (st : List am_V) (h : am_H) : am_go0 cl 159 118 ls st h = am_go0 cl 159 119 ls (.inl 0 :: st) h := am_rK am_m159 d_159_118 (by decide) rfl _ _ _
theorem d_159_119 : am_code 159 119 = some (.iastore, 1) := by decide +kernel
theorem s_159_119 (cl : am_C) (ls : am_Ls) (i : Int) (v : Int) (k : Nat) (st : List am_V) (N : Nat) (I : Nat → Int → Int) (L : Nat → Int → Int64) : am_go0 cl 159 119 ls (.inl v :: .inl i :: .inr (.inr (some k)) :: st) (am_GS N, am_GR, I, L) = if am_inb (am_GS N) k 0 i = true then am_go0 cl 159 120 ls st (am_GS N, am_GR, am_uI I k i v, L) else none := am_rS am_m159 d_159_119 rfl k ls st i v _ _ I L
theorem d_159_120 : am_code 159 120 = some (.iinc 5 1, 3) := by decide +kernel
theorem s_159_120 (cl : am_C) (a0 a1 a2 a3 a4 : Option am_V) (x : Int) (st : List am_V) (h : am_H) : am_go0 cl 159 120 [a0, a1, a2, a3, a4, some (.inl x)] st h = am_go0 cl 159 123 [a0, a1, a2, a3, am_c1 a4, some (.inl (am_wr (x + 1)))] st h := am_r am_m159 d_159_120 rfl
theorem d_159_123 : am_code 159 123 = some (.goto (-48), 3) := by decide +kernel
theorem s_159_123 (cl : am_C) (ls : am_Ls) (st : List am_V) (h : am_H) : am_go0 cl 159 123 ls st h = am_go0 cl 159 75 ls st h := am_rGo am_m159 d_159_123 (by decide) _ _ _
theorem d_159_126 : am_code 159 126 = some (.aload_n 0, 1) := by decide +kernel
theorem s_159_126 (cl : am_C) (a1 a2 a3 a4 a5 : Option am_V) (x : Nat) (st : List am_V) (h : am_H) : am_go0 cl 159 126 [some (.inr (.inr (some x))), a1, a2, a3, a4, a5] st h = am_go0 cl 159 127 [some (.inr (.inr (some x))), a1, a2, a3, a4, a5] (.inr (.inr (some x)) :: st) h := am_r am_m159 d_159_126 rfl
theorem d_159_127 : am_code 159 127 = some (.dup, 1) := by decide +kernel
theorem s_159_127 (cl : am_C) (ls : am_Ls) (x : Nat) (st : List am_V) (h : am_H) : am_go0 cl 159 127 ls (.inr (.inr (some x)) :: st) h = am_go0 cl 159 128 ls (.inr (.inr (some x)) :: .inr (.inr (some x)) :: st) h := am_r am_m159 d_159_127 rfl
theorem d_159_128 : am_code 159 128 = some (.getfield 172, 3) := by decide +kernel
theorem s_159_128 (cl : am_C) (ls : am_Ls) (st : List am_V) (N : Nat) (I : Nat → Int → Int) (L : Nat → Int → Int64) : am_go0 cl 159 128 ls (.inr (.inr (some 53)) :: st) (am_GS N, am_GR, I, L) = am_go0 cl 159 131 ls (.inl (I 53 28) :: st) (am_GS N, am_GR, I, L) := am_rG0 am_m159 d_159_128 am_f9172 rfl (gs_53 N) (by decide) rfl
theorem d_159_131 : am_code 159 131 = some (.iconst 1, 1) := by decide +kernel
theorem s_159_131 (cl : am_C) (ls : am_Ls) (st : List am_V) (h : am_H) : am_go0 cl 159 131 ls st h = am_go0 cl 159 132 ls (.inl 1 :: st) h := am_rK am_m159 d_159_131 (by decide) rfl _ _ _
theorem d_159_132 : am_code 159 132 = some (.iadd, 1) := by decide +kernel
theorem s_159_132 (cl : am_C) (ls : am_Ls) (x y : Int) (st : List am_V) (h : am_H) : am_go0 cl 159 132 ls (.inl y :: .inl x :: st) h = am_go0 cl 159 133 ls (.inl (am_wr (x + y)) :: st) h := am_r am_m159 d_159_132 rfl
theorem d_159_133 : am_code 159 133 = some (.putfield 172, 3) := by decide +kernel
theorem s_159_133 (cl : am_C) (ls : am_Ls) (v : Int) (st : List am_V) (N : Nat) (I : Nat → Int → Int) (L : Nat → Int → Int64) : am_go0 cl 159 133 ls (.inl v :: .inr (.inr (some 53)) :: st) (am_GS N, am_GR, I, L) = am_go0 cl 159 136 ls st (am_GS N, am_GR, am_uI I 53 28 v, L) := am_rP0 am_m159 d_159_133 am_f9172 rfl (gs_53 N) (by decide) rfl
theorem d_159_136 : am_code 159 136 = some (.iload 4, 2) := by decide +kernel
theorem s_159_136 (cl : am_C) (a0 a1 a2 a3 a5 : Option am_V) (x : Int) (st : List am_V) (h : am_H) : am_go0 cl 159 136 [a0, a1, a2, a3, some (.inl x), a5] st h = am_go0 cl 159 138 [a0, a1, a2, a3, some (.inl x), a5] (.inl x :: st) h := am_r am_m159 d_159_136 rfl
theorem d_159_138 : am_code 159 138 = some (.ireturn, 1) := by decide +kernel
theorem s_159_138 (cl : am_C) (ls : am_Ls) (x : Int) (h : am_H) : am_go0 cl 159 138 ls [.inl x] h = some (some (.inl x), h) := am_rE am_m159 d_159_138 rfl
theorem e_159 (d : Nat) (t : Nat) (p0 : Int) (p1 : Int) (h : am_H) : am_call (d + 1) 159 [.inr (.inr (some t)), .inl p0, .inl p1] h = am_go0 (am_call d) 159 0 [some (.inr (.inr (some t))), some (.inl p0), some (.inl p1), none, none, none] [] h := am_callE am_m159 (Nat.le_of_ble_eq_true rfl) rfl
theorem d_160_0 : am_code 160 0 = some (.aload_n 0, 1) := by decide +kernel
theorem s_160_0 (cl : am_C) (a1 : Option am_V) (x : Nat) (st : List am_V) (h : am_H) : am_go0 cl 160 0 [some (.inr (.inr (some x))), a1] st h = am_go0 cl 160 1 [some (.inr (.inr (some x))), a1] (.inr (.inr (some x)) :: st) h := am_r am_m160 d_160_0 rfl
theorem d_160_1 : am_code 160 1 = some (.getfield 53, 3) := by decide +kernel
theorem s_160_1 (cl : am_C) (ls : am_Ls) (st : List am_V) (N : Nat) (I : Nat → Int → Int) (L : Nat → Int → Int64) : am_go0 cl 160 1 ls (.inr (.inr (some 53)) :: st) (am_GS N, am_GR, I, L) = am_go0 cl 160 4 ls (.inr (.inr (some 67)) :: st) (am_GS N, am_GR, I, L) := am_rG2 am_m160 d_160_1 am_f9053 rfl (gs_53 N) (by decide) gr_53_17 rfl
theorem d_160_4 : am_code 160 4 = some (.aload_n 0, 1) := by decide +kernel
theorem s_160_4 (cl : am_C) (a1 : Option am_V) (x : Nat) (st : List am_V) (h : am_H) : am_go0 cl 160 4 [some (.inr (.inr (some x))), a1] st h = am_go0 cl 160 5 [some (.inr (.inr (some x))), a1] (.inr (.inr (some x)) :: st) h := am_r am_m160 d_160_4 rfl
theorem d_160_5 : am_code 160 5 = some (.getfield 90, 3) := by decide +kernel
theorem s_160_5 (cl : am_C) (ls : am_Ls) (st : List am_V) (N : Nat) (I : Nat → Int → Int) (L : Nat → Int → Int64) : am_go0 cl 160 5 ls (.inr (.inr (some 53)) :: st) (am_GS N, am_GR, I, L) = am_go0 cl 160 8 ls (.inr (.inr (some 79)) :: st) (am_GS N, am_GR, I, L) := am_rG2 am_m160 d_160_5 am_f9090 rfl (gs_53 N) (by decide) gr_53_31 rfl
theorem d_160_8 : am_code 160 8 = some (.iload_n 1, 1) := by decide +kernel
theorem s_160_8 (cl : am_C) (a0 : Option am_V) (x : Int) (st : List am_V) (h : am_H) : am_go0 cl 160 8 [a0, some (.inl x)] st h = am_go0 cl 160 9 [a0, some (.inl x)] (.inl x :: st) h := am_r am_m160 d_160_8 rfl
theorem d_160_9 : am_code 160 9 = some (.iaload, 1) := by decide +kernel
theorem s_160_9 (cl : am_C) (ls : am_Ls) (i : Int) (k : Nat) (st : List am_V) (N : Nat) (I : Nat → Int → Int) (L : Nat → Int → Int64) : am_go0 cl 160 9 ls (.inl i :: .inr (.inr (some k)) :: st) (am_GS N, am_GR, I, L) = if am_inb (am_GS N) k 0 i = true then am_go0 cl 160 10 ls (.inl (I k i) :: st) (am_GS N, am_GR, I, L) else none := am_rA am_m160 d_160_9 (by decide) rfl k ls st i _ _ I L
theorem d_160_10 : am_code 160 10 = some (.iaload, 1) := by decide +kernel
theorem s_160_10 (cl : am_C) (ls : am_Ls) (i : Int) (k : Nat) (st : List am_V) (N : Nat) (I : Nat → Int → Int) (L : Nat → Int → Int64) : am_go0 cl 160 10 ls (.inl i :: .inr (.inr (some k)) :: st) (am_GS N, am_GR, I, L) = if am_inb (am_GS N) k 0 i = true then am_go0 cl 160 11 ls (.inl (I k i) :: st) (am_GS N, am_GR, I, L) else none := am_rA am_m160 d_160_10 (by decide) rfl k ls st i _ _ I L
theorem d_160_11 : am_code 160 11 = some (.aload_n 0, 1) := by decide +kernel
theorem s_160_11 (cl : am_C) (a1 : Option am_V) (x : Nat) (st : List am_V) (h : am_H) : am_go0 cl 160 11 [some (.inr (.inr (some x))), a1] st h = am_go0 cl 160 12 [some (.inr (.inr (some x))), a1] (.inr (.inr (some x)) :: st) h := am_r am_m160 d_160_11 rfl
theorem d_160_12 : am_code 160 12 = some (.getfield 38, 3) := by decide +kernel
theorem s_160_12 (cl : am_C) (ls : am_Ls) (st : List am_V) (N : Nat) (I : Nat → Int → Int) (L : Nat → Int → Int64) : am_go0 cl 160 12 ls (.inr (.inr (some 53)) :: st) (am_GS N, am_GR, I, L) = am_go0 cl 160 15 ls (.inr (.inr (some 62)) :: st) (am_GS N, am_GR, I, L) := am_rG2 am_m160 d_160_12 am_f9038 rfl (gs_53 N) (by decide) gr_53_11 rfl
theorem d_160_15 : am_code 160 15 = some (.aload_n 0, 1) := by decide +kernel
theorem s_160_15 (cl : am_C) (a1 : Option am_V) (x : Nat) (st : List am_V) (h : am_H) : am_go0 cl 160 15 [some (.inr (.inr (some x))), a1] st h = am_go0 cl 160 16 [some (.inr (.inr (some x))), a1] (.inr (.inr (some x)) :: st) h := am_r am_m160 d_160_15 rfl
theorem d_160_16 : am_code 160 16 = some (.getfield 84, 3) := by decide +kernel
theorem s_160_16 (cl : am_C) (ls : am_Ls) (st : List am_V) (N : Nat) (I : Nat → Int → Int) (L : Nat → Int → Int64) : am_go0 cl 160 16 ls (.inr (.inr (some 53)) :: st) (am_GS N, am_GR, I, L) = am_go0 cl 160 19 ls (.inr (.inr (some 77)) :: st) (am_GS N, am_GR, I, L) := am_rG2 am_m160 d_160_16 am_f9084 rfl (gs_53 N) (by decide) gr_53_29 rfl
theorem d_160_19 : am_code 160 19 = some (.iload_n 1, 1) := by decide +kernel
theorem s_160_19 (cl : am_C) (a0 : Option am_V) (x : Int) (st : List am_V) (h : am_H) : am_go0 cl 160 19 [a0, some (.inl x)] st h = am_go0 cl 160 20 [a0, some (.inl x)] (.inl x :: st) h := am_r am_m160 d_160_19 rfl
theorem d_160_20 : am_code 160 20 = some (.iaload, 1) := by decide +kernel
theorem s_160_20 (cl : am_C) (ls : am_Ls) (i : Int) (k : Nat) (st : List am_V) (N : Nat) (I : Nat → Int → Int) (L : Nat → Int → Int64) : am_go0 cl 160 20 ls (.inl i :: .inr (.inr (some k)) :: st) (am_GS N, am_GR, I, L) = if am_inb (am_GS N) k 0 i = true then am_go0 cl 160 21 ls (.inl (I k i) :: st) (am_GS N, am_GR, I, L) else none := am_rA am_m160 d_160_20 (by decide) rfl k ls st i _ _ I L
theorem d_160_21 : am_code 160 21 = some (.iaload, 1) := by decide +kernel
theorem s_160_21 (cl : am_C) (ls : am_Ls) (i : Int) (k : Nat) (st : List am_V) (N : Nat) (I : Nat → Int → Int) (L : Nat → Int → Int64) : am_go0 cl 160 21 ls (.inl i :: .inr (.inr (some k)) :: st) (am_GS N, am_GR, I, L) = if am_inb (am_GS N) k 0 i = true then am_go0 cl 160 22 ls (.inl (I k i) :: st) (am_GS N, am_GR, I, L) else none := am_rA am_m160 d_160_21 (by decide) rfl k ls st i _ _ I L
theorem d_160_22 : am_code 160 22 = some (.iadd, 1) := by decide +kernel
theorem s_160_22 (cl : am_C) (ls : am_Ls) (x y : Int) (st : List am_V) (h : am_H) : am_go0 cl 160 22 ls (.inl y :: .inl x :: st) h = am_go0 cl 160 23 ls (.inl (am_wr (x + y)) :: st) h := am_r am_m160 d_160_22 rfl
theorem d_160_23 : am_code 160 23 = some (.ireturn, 1) := by decide +kernel
theorem s_160_23 (cl : am_C) (ls : am_Ls) (x : Int) (h : am_H) : am_go0 cl 160 23 ls [.inl x] h = some (some (.inl x), h) := am_rE am_m160 d_160_23 rfl
theorem e_160 (d : Nat) (t : Nat) (p0 : Int) (h : am_H) : am_call (d + 1) 160 [.inr (.inr (some t)), .inl p0] h = am_go0 (am_call d) 160 0 [some (.inr (.inr (some t))), some (.inl p0)] [] h := am_callE am_m160 (Nat.le_of_ble_eq_true rfl) rfl
theorem d_161_0 : am_code 161 0 = some (.iload_n 2, 1) := by decide +kernel
theorem s_161_0 (cl : am_C) (a0 a1 : Option am_V) (x : Int) (st : List am_V) (h : am_H) : am_go0 cl 161 0 [a0, a1, some (.inl x)] st h = am_go0 cl 161 1 [a0, a1, some (.inl x)] (.inl x :: st) h := am_r am_m161 d_161_0 rfl
theorem d_161_1 : am_code 161 1 = some (.ifCond .ne 12, 3) := by decide +kernel
theorem s_161_1 (cl : am_C) (ls : am_Ls) (x : Int) (st : List am_V) (h : am_H) : am_go0 cl 161 1 ls (.inl x :: st) h = if x = 0 then am_go0 cl 161 4 ls st h else am_go0 cl 161 13 ls st h := (am_rJ1 am_m161 d_161_1 (by decide) rfl x ls st h).trans (am_ifF ((am_cmp_ne x 0).trans Iff.rfl) _ _)
theorem d_161_4 : am_code 161 4 = some (.aload_n 0, 1) := by decide +kernel
theorem s_161_4 (cl : am_C) (a1 a2 : Option am_V) (x : Nat) (st : List am_V) (h : am_H) : am_go0 cl 161 4 [some (.inr (.inr (some x))), a1, a2] st h = am_go0 cl 161 5 [some (.inr (.inr (some x))), a1, a2] (.inr (.inr (some x)) :: st) h := am_r am_m161 d_161_4 rfl
theorem d_161_5 : am_code 161 5 = some (.getfield 20, 3) := by decide +kernel
theorem s_161_5 (cl : am_C) (ls : am_Ls) (st : List am_V) (N : Nat) (I : Nat → Int → Int) (L : Nat → Int → Int64) : am_go0 cl 161 5 ls (.inr (.inr (some 53)) :: st) (am_GS N, am_GR, I, L) = am_go0 cl 161 8 ls (.inr (.inr (some 56)) :: st) (am_GS N, am_GR, I, L) := am_rG2 am_m161 d_161_5 am_f9020 rfl (gs_53 N) (by decide) gr_53_4 rfl
theorem d_161_8 : am_code 161 8 = some (.iload_n 1, 1) := by decide +kernel
theorem s_161_8 (cl : am_C) (a0 a2 : Option am_V) (x : Int) (st : List am_V) (h : am_H) : am_go0 cl 161 8 [a0, some (.inl x), a2] st h = am_go0 cl 161 9 [a0, some (.inl x), a2] (.inl x :: st) h := am_r am_m161 d_161_8 rfl
theorem d_161_9 : am_code 161 9 = some (.iaload, 1) := by decide +kernel
theorem s_161_9 (cl : am_C) (ls : am_Ls) (i : Int) (k : Nat) (st : List am_V) (N : Nat) (I : Nat → Int → Int) (L : Nat → Int → Int64) : am_go0 cl 161 9 ls (.inl i :: .inr (.inr (some k)) :: st) (am_GS N, am_GR, I, L) = if am_inb (am_GS N) k 0 i = true then am_go0 cl 161 10 ls (.inl (I k i) :: st) (am_GS N, am_GR, I, L) else none := am_rA am_m161 d_161_9 (by decide) rfl k ls st i _ _ I L
theorem d_161_10 : am_code 161 10 = some (.goto 9, 3) := by decide +kernel
theorem s_161_10 (cl : am_C) (ls : am_Ls) (st : List am_V) (h : am_H) : am_go0 cl 161 10 ls st h = am_go0 cl 161 19 ls st h := am_rGo am_m161 d_161_10 (by decide) _ _ _
theorem d_161_13 : am_code 161 13 = some (.aload_n 0, 1) := by decide +kernel
theorem s_161_13 (cl : am_C) (a1 a2 : Option am_V) (x : Nat) (st : List am_V) (h : am_H) : am_go0 cl 161 13 [some (.inr (.inr (some x))), a1, a2] st h = am_go0 cl 161 14 [some (.inr (.inr (some x))), a1, a2] (.inr (.inr (some x)) :: st) h := am_r am_m161 d_161_13 rfl
theorem d_161_14 : am_code 161 14 = some (.getfield 23, 3) := by decide +kernel
theorem s_161_14 (cl : am_C) (ls : am_Ls) (st : List am_V) (N : Nat) (I : Nat → Int → Int) (L : Nat → Int → Int64) : am_go0 cl 161 14 ls (.inr (.inr (some 53)) :: st) (am_GS N, am_GR, I, L) = am_go0 cl 161 17 ls (.inr (.inr (some 57)) :: st) (am_GS N, am_GR, I, L) := am_rG2 am_m161 d_161_14 am_f9023 rfl (gs_53 N) (by decide) gr_53_5 rfl
theorem d_161_17 : am_code 161 17 = some (.iload_n 1, 1) := by decide +kernel
theorem s_161_17 (cl : am_C) (a0 a2 : Option am_V) (x : Int) (st : List am_V) (h : am_H) : am_go0 cl 161 17 [a0, some (.inl x), a2] st h = am_go0 cl 161 18 [a0, some (.inl x), a2] (.inl x :: st) h := am_r am_m161 d_161_17 rfl
theorem d_161_18 : am_code 161 18 = some (.iaload, 1) := by decide +kernel
theorem s_161_18 (cl : am_C) (ls : am_Ls) (i : Int) (k : Nat) (st : List am_V) (N : Nat) (I : Nat → Int → Int) (L : Nat → Int → Int64) : am_go0 cl 161 18 ls (.inl i :: .inr (.inr (some k)) :: st) (am_GS N, am_GR, I, L) = if am_inb (am_GS N) k 0 i = true then am_go0 cl 161 19 ls (.inl (I k i) :: st) (am_GS N, am_GR, I, L) else none := am_rA am_m161 d_161_18 (by decide) rfl k ls st i _ _ I L
theorem d_161_19 : am_code 161 19 = some (.ireturn, 1) := by decide +kernel
theorem s_161_19 (cl : am_C) (ls : am_Ls) (x : Int) (h : am_H) : am_go0 cl 161 19 ls [.inl x] h = some (some (.inl x), h) := am_rE am_m161 d_161_19 rfl
theorem e_161 (d : Nat) (t : Nat) (p0 : Int) (p1 : Int) (h : am_H) : am_call (d + 1) 161 [.inr (.inr (some t)), .inl p0, .inl p1] h = am_go0 (am_call d) 161 0 [some (.inr (.inr (some t))), some (.inl p0), some (.inl p1)] [] h := am_callE am_m161 (Nat.le_of_ble_eq_true rfl) rfl
theorem d_162_0 : am_code 162 0 = some (.iload_n 1, 1) := by decide +kernel
theorem s_162_0 (cl : am_C) (a0 : Option am_V) (x : Int) (st : List am_V) (h : am_H) : am_go0 cl 162 0 [a0, some (.inl x)] st h = am_go0 cl 162 1 [a0, some (.inl x)] (.inl x :: st) h := am_r am_m162 d_162_0 rfl
theorem d_162_1 : am_code 162 1 = some (.ifCond .ne 10, 3) := by decide +kernel
theorem s_162_1 (cl : am_C) (ls : am_Ls) (x : Int) (st : List am_V) (h : am_H) : am_go0 cl 162 1 ls (.inl x :: st) h = if x = 0 then am_go0 cl 162 4 ls st h else am_go0 cl 162 11 ls st h := (am_rJ1 am_m162 d_162_1 (by decide) rfl x ls st h).trans (am_ifF ((am_cmp_ne x 0).trans Iff.rfl) _ _)
theorem d_162_4 : am_code 162 4 = some (.aload_n 0, 1) := by decide +kernel
theorem s_162_4 (cl : am_C) (a1 : Option am_V) (x : Nat) (st : List am_V) (h : am_H) : am_go0 cl 162 4 [some (.inr (.inr (some x))), a1] st h = am_go0 cl 162 5 [some (.inr (.inr (some x))), a1] (.inr (.inr (some x)) :: st) h := am_r am_m162 d_162_4 rfl
theorem d_162_5 : am_code 162 5 = some (.getfield 109, 3) := by decide +kernel
theorem s_162_5 (cl : am_C) (ls : am_Ls) (st : List am_V) (N : Nat) (I : Nat → Int → Int) (L : Nat → Int → Int64) : am_go0 cl 162 5 ls (.inr (.inr (some 53)) :: st) (am_GS N, am_GR, I, L) = am_go0 cl 162 8 ls (.inl (I 53 37) :: st) (am_GS N, am_GR, I, L) := am_rG0 am_m162 d_162_5 am_f9109 rfl (gs_53 N) (by decide) rfl
theorem d_162_8 : am_code 162 8 = some (.goto 17, 3) := by decide +kernel
theorem s_162_8 (cl : am_C) (ls : am_Ls) (st : List am_V) (h : am_H) : am_go0 cl 162 8 ls st h = am_go0 cl 162 25 ls st h := am_rGo am_m162 d_162_8 (by decide) _ _ _
theorem d_162_11 : am_code 162 11 = some (.iload_n 1, 1) := by decide +kernel
theorem s_162_11 (cl : am_C) (a0 : Option am_V) (x : Int) (st : List am_V) (h : am_H) : am_go0 cl 162 11 [a0, some (.inl x)] st h = am_go0 cl 162 12 [a0, some (.inl x)] (.inl x :: st) h := am_r am_m162 d_162_11 rfl
theorem d_162_12 : am_code 162 12 = some (.iconst 1, 1) := by decide +kernel
theorem s_162_12 (cl : am_C) (ls : am_Ls) (st : List am_V) (h : am_H) : am_go0 cl 162 12 ls st h = am_go0 cl 162 13 ls (.inl 1 :: st) h := am_rK am_m162 d_162_12 (by decide) rfl _ _ _
theorem d_162_13 : am_code 162 13 = some (.if_icmp .ne 10, 3) := by decide +kernel
theorem s_162_13 (cl : am_C) (ls : am_Ls) (x y : Int) (st : List am_V) (h : am_H) : am_go0 cl 162 13 ls (.inl y :: .inl x :: st) h = if x = y then am_go0 cl 162 16 ls st h else am_go0 cl 162 23 ls st h := (am_rJ0 am_m162 d_162_13 (by decide) rfl x y ls st h).trans (am_ifF ((am_cmp_ne x y).trans Iff.rfl) _ _)
theorem d_162_16 : am_code 162 16 = some (.aload_n 0, 1) := by decide +kernel
theorem s_162_16 (cl : am_C) (a1 : Option am_V) (x : Nat) (st : List am_V) (h : am_H) : am_go0 cl 162 16 [some (.inr (.inr (some x))), a1] st h = am_go0 cl 162 17 [some (.inr (.inr (some x))), a1] (.inr (.inr (some x)) :: st) h := am_r am_m162 d_162_16 rfl
theorem d_162_17 : am_code 162 17 = some (.getfield 112, 3) := by decide +kernel
theorem s_162_17 (cl : am_C) (ls : am_Ls) (st : List am_V) (N : Nat) (I : Nat → Int → Int) (L : Nat → Int → Int64) : am_go0 cl 162 17 ls (.inr (.inr (some 53)) :: st) (am_GS N, am_GR, I, L) = am_go0 cl 162 20 ls (.inl (I 53 38) :: st) (am_GS N, am_GR, I, L) := am_rG0 am_m162 d_162_17 am_f9112 rfl (gs_53 N) (by decide) rfl
theorem d_162_20 : am_code 162 20 = some (.goto 5, 3) := by decide +kernel
theorem s_162_20 (cl : am_C) (ls : am_Ls) (st : List am_V) (h : am_H) : am_go0 cl 162 20 ls st h = am_go0 cl 162 25 ls st h := am_rGo am_m162 d_162_20 (by decide) _ _ _
theorem d_162_23 : am_code 162 23 = some (.bipush (-2), 2) := by decide +kernel
theorem s_162_23 (cl : am_C) (ls : am_Ls) (st : List am_V) (h : am_H) : am_go0 cl 162 23 ls st h = am_go0 cl 162 25 ls (.inl (-2) :: st) h := am_rB am_m162 d_162_23 (by decide) rfl _ _ _
theorem d_162_25 : am_code 162 25 = some (.ireturn, 1) := by decide +kernel
theorem s_162_25 (cl : am_C) (ls : am_Ls) (x : Int) (h : am_H) : am_go0 cl 162 25 ls [.inl x] h = some (some (.inl x), h) := am_rE am_m162 d_162_25 rfl
theorem e_162 (d : Nat) (t : Nat) (p0 : Int) (h : am_H) : am_call (d + 1) 162 [.inr (.inr (some t)), .inl p0] h = am_go0 (am_call d) 162 0 [some (.inr (.inr (some t))), some (.inl p0)] [] h := am_callE am_m162 (Nat.le_of_ble_eq_true rfl) rfl
theorem d_163_0 : am_code 163 0 = some (.aload_n 0, 1) := by decide +kernel
theorem s_163_0 (cl : am_C) (a1 a2 : Option am_V) (x : Nat) (st : List am_V) (h : am_H) : am_go0 cl 163 0 [some (.inr (.inr (some x))), a1, a2] st h = am_go0 cl 163 1 [some (.inr (.inr (some x))), a1, a2] (.inr (.inr (some x)) :: st) h := am_r am_m163 d_163_0 rfl
theorem d_163_1 : am_code 163 1 = some (.iload_n 1, 1) := by decide +kernel
theorem s_163_1 (cl : am_C) (a0 a2 : Option am_V) (x : Int) (st : List am_V) (h : am_H) : am_go0 cl 163 1 [a0, some (.inl x), a2] st h = am_go0 cl 163 2 [a0, some (.inl x), a2] (.inl x :: st) h := am_r am_m163 d_163_1 rfl
theorem d_163_2 : am_code 163 2 = some (.invokevirtual 223, 3) := by decide +kernel
theorem s_163_2 (cl : am_C) (ls : am_Ls) (x0 : Int) (N : Nat) (I : Nat → Int → Int) (L : Nat → Int → Int64) : am_go0 cl 163 2 ls [.inl x0, .inr (.inr (some 53))] (am_GS N, am_GR, I, L) = am_bd (cl 164 [.inr (.inr (some 53)), .inl x0] (am_GS N, am_GR, I, L)) (fun v h2 => am_go0 cl 163 5 ls (v.toList ++ []) h2) := am_rV am_m163 d_163_2 am_k9223 rfl am_m164 (gs_53 N) (by decide) (Nat.le_of_ble_eq_true rfl) rfl ls
theorem d_163_5 : am_code 163 5 = some (.ifCond .eq 32, 3) := by decide +kernel
theorem s_163_5 (cl : am_C) (ls : am_Ls) (x : Int) (st : List am_V) (h : am_H) : am_go0 cl 163 5 ls (.inl x :: st) h = if x = 0 then am_go0 cl 163 37 ls st h else am_go0 cl 163 8 ls st h := (am_rJ1 am_m163 d_163_5 (by decide) rfl x ls st h).trans (am_ifT (am_cmp_eq x 0) _ _)
theorem d_163_8 : am_code 163 8 = some (.iload_n 2, 1) := by decide +kernel
theorem s_163_8 (cl : am_C) (a0 a1 : Option am_V) (x : Int) (st : List am_V) (h : am_H) : am_go0 cl 163 8 [a0, a1, some (.inl x)] st h = am_go0 cl 163 9 [a0, a1, some (.inl x)] (.inl x :: st) h := am_r am_m163 d_163_8 rfl
theorem d_163_9 : am_code 163 9 = some (.iconst 0, 1) := by decide +kernel
theorem s_163_9 (cl : am_C) (ls : am_Ls) (st : List am_V) (h : am_H) : am_go0 cl 163 9 ls st h = am_go0 cl 163 10 ls (.inl 0 :: st) h := am_rK am_m163 d_163_9 (by decide) rfl _ _ _
theorem d_163_10 : am_code 163 10 = some (.aload_n 0, 1) := by decide +kernel
theorem s_163_10 (cl : am_C) (a1 a2 : Option am_V) (x : Nat) (st : List am_V) (h : am_H) : am_go0 cl 163 10 [some (.inr (.inr (some x))), a1, a2] st h = am_go0 cl 163 11 [some (.inr (.inr (some x))), a1, a2] (.inr (.inr (some x)) :: st) h := am_r am_m163 d_163_10 rfl
theorem d_163_11 : am_code 163 11 = some (.iload_n 1, 1) := by decide +kernel
theorem s_163_11 (cl : am_C) (a0 a2 : Option am_V) (x : Int) (st : List am_V) (h : am_H) : am_go0 cl 163 11 [a0, some (.inl x), a2] st h = am_go0 cl 163 12 [a0, some (.inl x), a2] (.inl x :: st) h := am_r am_m163 d_163_11 rfl
theorem d_163_12 : am_code 163 12 = some (.invokevirtual 214, 3) := by decide +kernel
theorem s_163_12 (cl : am_C) (ls : am_Ls) (x0 : Int) (z0 : Int) (z1 : Int) (N : Nat) (I : Nat → Int → Int) (L : Nat → Int → Int64) : am_go0 cl 163 12 ls [.inl x0, .inr (.inr (some 53)), .inl z0, .inl z1] (am_GS N, am_GR, I, L) = am_bd (cl 160 [.inr (.inr (some 53)), .inl x0] (am_GS N, am_GR, I, L)) (fun v h2 => am_go0 cl 163 15 ls (v.toList ++ [.inl z0, .inl z1]) h2) := am_rV am_m163 d_163_12 am_k9214 rfl am_m160 (gs_53 N) (by decide) (Nat.le_of_ble_eq_true rfl) rfl ls
theorem d_163_15 : am_code 163 15 = some (.iconst 1, 1) := by decide +kernel
theorem s_163_15 (cl : am_C) (ls : am_Ls) (st : List am_V) (h : am_H) : am_go0 cl 163 15 ls st h = am_go0 cl 163 16 ls (.inl 1 :: st) h := am_rK am_m163 d_163_15 (by decide) rfl _ _ _
theorem d_163_16 : am_code 163 16 = some (.isub, 1) := by decide +kernel
theorem s_163_16 (cl : am_C) (ls : am_Ls) (x y : Int) (st : List am_V) (h : am_H) : am_go0 cl 163 16 ls (.inl y :: .inl x :: st) h = am_go0 cl 163 17 ls (.inl (am_wr (x - y)) :: st) h := am_r am_m163 d_163_16 rfl
theorem d_163_17 : am_code 163 17 = some (.invokestatic 151, 3) := by decide +kernel
theorem s_163_17 (cl : am_C) (ls : am_Ls) (x0 : Int) (x1 : Int) (x2 : Int) (h : am_H) : am_go0 cl 163 17 ls [.inl x2, .inl x1, .inl x0] h = am_bd (cl 135 [.inl x0, .inl x1, .inl x2] h) (fun v h2 => am_go0 cl 163 20 ls (v.toList ++ []) h2) := am_rVs am_m163 d_163_17 am_k9151 rfl (Nat.le_of_ble_eq_true rfl) rfl ls
theorem d_163_20 : am_code 163 20 = some (.ifCond .eq 17, 3) := by decide +kernel
theorem s_163_20 (cl : am_C) (ls : am_Ls) (x : Int) (st : List am_V) (h : am_H) : am_go0 cl 163 20 ls (.inl x :: st) h = if x = 0 then am_go0 cl 163 37 ls st h else am_go0 cl 163 23 ls st h := (am_rJ1 am_m163 d_163_20 (by decide) rfl x ls st h).trans (am_ifT (am_cmp_eq x 0) _ _)
theorem d_163_23 : am_code 163 23 = some (.aload_n 0, 1) := by decide +kernel
theorem s_163_23 (cl : am_C) (a1 a2 : Option am_V) (x : Nat) (st : List am_V) (h : am_H) : am_go0 cl 163 23 [some (.inr (.inr (some x))), a1, a2] st h = am_go0 cl 163 24 [some (.inr (.inr (some x))), a1, a2] (.inr (.inr (some x)) :: st) h := am_r am_m163 d_163_23 rfl
theorem d_163_24 : am_code 163 24 = some (.getfield 93, 3) := by decide +kernel
theorem s_163_24 (cl : am_C) (ls : am_Ls) (st : List am_V) (N : Nat) (I : Nat → Int → Int) (L : Nat → Int → Int64) : am_go0 cl 163 24 ls (.inr (.inr (some 53)) :: st) (am_GS N, am_GR, I, L) = am_go0 cl 163 27 ls (.inr (.inr (some 80)) :: st) (am_GS N, am_GR, I, L) := am_rG2 am_m163 d_163_24 am_f9093 rfl (gs_53 N) (by decide) gr_53_32 rfl
theorem d_163_27 : am_code 163 27 = some (.bipush 6, 2) := by decide +kernel
theorem s_163_27 (cl : am_C) (ls : am_Ls) (st : List am_V) (h : am_H) : am_go0 cl 163 27 ls st h = am_go0 cl 163 29 ls (.inl 6 :: st) h := am_rB am_m163 d_163_27 (by decide) rfl _ _ _
theorem d_163_29 : am_code 163 29 = some (.iload_n 1, 1) := by decide +kernel
theorem s_163_29 (cl : am_C) (a0 a2 : Option am_V) (x : Int) (st : List am_V) (h : am_H) : am_go0 cl 163 29 [a0, some (.inl x), a2] st h = am_go0 cl 163 30 [a0, some (.inl x), a2] (.inl x :: st) h := am_r am_m163 d_163_29 rfl
theorem d_163_30 : am_code 163 30 = some (.imul, 1) := by decide +kernel
theorem s_163_30 (cl : am_C) (ls : am_Ls) (x y : Int) (st : List am_V) (h : am_H) : am_go0 cl 163 30 ls (.inl y :: .inl x :: st) h = am_go0 cl 163 31 ls (.inl (am_wr (x * y)) :: st) h := am_r am_m163 d_163_30 rfl
theorem d_163_31 : am_code 163 31 = some (.iload_n 2, 1) := by decide +kernel
theorem s_163_31 (cl : am_C) (a0 a1 : Option am_V) (x : Int) (st : List am_V) (h : am_H) : am_go0 cl 163 31 [a0, a1, some (.inl x)] st h = am_go0 cl 163 32 [a0, a1, some (.inl x)] (.inl x :: st) h := am_r am_m163 d_163_31 rfl
theorem d_163_32 : am_code 163 32 = some (.iadd, 1) := by decide +kernel
theorem s_163_32 (cl : am_C) (ls : am_Ls) (x y : Int) (st : List am_V) (h : am_H) : am_go0 cl 163 32 ls (.inl y :: .inl x :: st) h = am_go0 cl 163 33 ls (.inl (am_wr (x + y)) :: st) h := am_r am_m163 d_163_32 rfl
theorem d_163_33 : am_code 163 33 = some (.iaload, 1) := by decide +kernel
theorem s_163_33 (cl : am_C) (ls : am_Ls) (i : Int) (k : Nat) (st : List am_V) (N : Nat) (I : Nat → Int → Int) (L : Nat → Int → Int64) : am_go0 cl 163 33 ls (.inl i :: .inr (.inr (some k)) :: st) (am_GS N, am_GR, I, L) = if am_inb (am_GS N) k 0 i = true then am_go0 cl 163 34 ls (.inl (I k i) :: st) (am_GS N, am_GR, I, L) else none := am_rA am_m163 d_163_33 (by decide) rfl k ls st i _ _ I L
theorem d_163_34 : am_code 163 34 = some (.goto 5, 3) := by decide +kernel
theorem s_163_34 (cl : am_C) (ls : am_Ls) (st : List am_V) (h : am_H) : am_go0 cl 163 34 ls st h = am_go0 cl 163 39 ls st h := am_rGo am_m163 d_163_34 (by decide) _ _ _
theorem d_163_37 : am_code 163 37 = some (.bipush (-2), 2) := by decide +kernel
theorem s_163_37 (cl : am_C) (ls : am_Ls) (st : List am_V) (h : am_H) : am_go0 cl 163 37 ls st h = am_go0 cl 163 39 ls (.inl (-2) :: st) h := am_rB am_m163 d_163_37 (by decide) rfl _ _ _
theorem d_163_39 : am_code 163 39 = some (.ireturn, 1) := by decide +kernel
theorem s_163_39 (cl : am_C) (ls : am_Ls) (x : Int) (h : am_H) : am_go0 cl 163 39 ls [.inl x] h = some (some (.inl x), h) := am_rE am_m163 d_163_39 rfl
theorem e_163 (d : Nat) (t : Nat) (p0 : Int) (p1 : Int) (h : am_H) : am_call (d + 1) 163 [.inr (.inr (some t)), .inl p0, .inl p1] h = am_go0 (am_call d) 163 0 [some (.inr (.inr (some t))), some (.inl p0), some (.inl p1)] [] h := am_callE am_m163 (Nat.le_of_ble_eq_true rfl) rfl
theorem d_164_0 : am_code 164 0 = some (.iload_n 1, 1) := by decide +kernel
theorem s_164_0 (cl : am_C) (a0 : Option am_V) (x : Int) (st : List am_V) (h : am_H) : am_go0 cl 164 0 [a0, some (.inl x)] st h = am_go0 cl 164 1 [a0, some (.inl x)] (.inl x :: st) h := am_r am_m164 d_164_0 rfl
theorem d_164_1 : am_code 164 1 = some (.iconst 0, 1) := by decide +kernel
theorem s_164_1 (cl : am_C) (ls : am_Ls) (st : List am_V) (h : am_H) : am_go0 cl 164 1 ls st h = am_go0 cl 164 2 ls (.inl 0 :: st) h := am_rK am_m164 d_164_1 (by decide) rfl _ _ _
theorem d_164_2 : am_code 164 2 = some (.aload_n 0, 1) := by decide +kernel
theorem s_164_2 (cl : am_C) (a1 : Option am_V) (x : Nat) (st : List am_V) (h : am_H) : am_go0 cl 164 2 [some (.inr (.inr (some x))), a1] st h = am_go0 cl 164 3 [some (.inr (.inr (some x))), a1] (.inr (.inr (some x)) :: st) h := am_r am_m164 d_164_2 rfl
theorem d_164_3 : am_code 164 3 = some (.getfield 172, 3) := by decide +kernel
theorem s_164_3 (cl : am_C) (ls : am_Ls) (st : List am_V) (N : Nat) (I : Nat → Int → Int) (L : Nat → Int → Int64) : am_go0 cl 164 3 ls (.inr (.inr (some 53)) :: st) (am_GS N, am_GR, I, L) = am_go0 cl 164 6 ls (.inl (I 53 28) :: st) (am_GS N, am_GR, I, L) := am_rG0 am_m164 d_164_3 am_f9172 rfl (gs_53 N) (by decide) rfl
theorem d_164_6 : am_code 164 6 = some (.iconst 1, 1) := by decide +kernel
theorem s_164_6 (cl : am_C) (ls : am_Ls) (st : List am_V) (h : am_H) : am_go0 cl 164 6 ls st h = am_go0 cl 164 7 ls (.inl 1 :: st) h := am_rK am_m164 d_164_6 (by decide) rfl _ _ _
theorem d_164_7 : am_code 164 7 = some (.isub, 1) := by decide +kernel
theorem s_164_7 (cl : am_C) (ls : am_Ls) (x y : Int) (st : List am_V) (h : am_H) : am_go0 cl 164 7 ls (.inl y :: .inl x :: st) h = am_go0 cl 164 8 ls (.inl (am_wr (x - y)) :: st) h := am_r am_m164 d_164_7 rfl
theorem d_164_8 : am_code 164 8 = some (.invokestatic 151, 3) := by decide +kernel
theorem s_164_8 (cl : am_C) (ls : am_Ls) (x0 : Int) (x1 : Int) (x2 : Int) (h : am_H) : am_go0 cl 164 8 ls [.inl x2, .inl x1, .inl x0] h = am_bd (cl 135 [.inl x0, .inl x1, .inl x2] h) (fun v h2 => am_go0 cl 164 11 ls (v.toList ++ []) h2) := am_rVs am_m164 d_164_8 am_k9151 rfl (Nat.le_of_ble_eq_true rfl) rfl ls
theorem d_164_11 : am_code 164 11 = some (.ireturn, 1) := by decide +kernel
theorem s_164_11 (cl : am_C) (ls : am_Ls) (x : Int) (h : am_H) : am_go0 cl 164 11 ls [.inl x] h = if x = 0 ∨ x = 1 then some (some (.inl x), h) else none := am_rRz am_m164 d_164_11 x ls h
theorem e_164 (d : Nat) (t : Nat) (p0 : Int) (h : am_H) : am_call (d + 1) 164 [.inr (.inr (some t)), .inl p0] h = am_go0 (am_call d) 164 0 [some (.inr (.inr (some t))), some (.inl p0)] [] h := am_callE am_m164 (Nat.le_of_ble_eq_true rfl) rfl
theorem d_165_0 : am_code 165 0 = some (.aload_n 0, 1) := by decide +kernel
theorem s_165_0 (cl : am_C) (a1 a2 : Option am_V) (x : Nat) (st : List am_V) (h : am_H) : am_go0 cl 165 0 [some (.inr (.inr (some x))), a1, a2] st h = am_go0 cl 165 1 [some (.inr (.inr (some x))), a1, a2] (.inr (.inr (some x)) :: st) h := am_r am_m165 d_165_0 rfl
theorem d_165_1 : am_code 165 1 = some (.iload_n 1, 1) := by decide +kernel
theorem s_165_1 (cl : am_C) (a0 a2 : Option am_V) (x : Int) (st : List am_V) (h : am_H) : am_go0 cl 165 1 [a0, some (.inl x), a2] st h = am_go0 cl 165 2 [a0, some (.inl x), a2] (.inl x :: st) h := am_r am_m165 d_165_1 rfl
theorem d_165_2 : am_code 165 2 = some (.invokevirtual 223, 3) := by decide +kernel
theorem s_165_2 (cl : am_C) (ls : am_Ls) (x0 : Int) (N : Nat) (I : Nat → Int → Int) (L : Nat → Int → Int64) : am_go0 cl 165 2 ls [.inl x0, .inr (.inr (some 53))] (am_GS N, am_GR, I, L) = am_bd (cl 164 [.inr (.inr (some 53)), .inl x0] (am_GS N, am_GR, I, L)) (fun v h2 => am_go0 cl 165 5 ls (v.toList ++ []) h2) := am_rV am_m165 d_165_2 am_k9223 rfl am_m164 (gs_53 N) (by decide) (Nat.le_of_ble_eq_true rfl) rfl ls
theorem d_165_5 : am_code 165 5 = some (.ifCond .eq 12, 3) := by decide +kernel
theorem s_165_5 (cl : am_C) (ls : am_Ls) (x : Int) (st : List am_V) (h : am_H) : am_go0 cl 165 5 ls (.inl x :: st) h = if x = 0 then am_go0 cl 165 17 ls st h else am_go0 cl 165 8 ls st h := (am_rJ1 am_m165 d_165_5 (by decide) rfl x ls st h).trans (am_ifT (am_cmp_eq x 0) _ _)
theorem d_165_8 : am_code 165 8 = some (.iload_n 2, 1) := by decide +kernel
theorem s_165_8 (cl : am_C) (a0 a1 : Option am_V) (x : Int) (st : List am_V) (h : am_H) : am_go0 cl 165 8 [a0, a1, some (.inl x)] st h = am_go0 cl 165 9 [a0, a1, some (.inl x)] (.inl x :: st) h := am_r am_m165 d_165_8 rfl
theorem d_165_9 : am_code 165 9 = some (.iconst 0, 1) := by decide +kernel
theorem s_165_9 (cl : am_C) (ls : am_Ls) (st : List am_V) (h : am_H) : am_go0 cl 165 9 ls st h = am_go0 cl 165 10 ls (.inl 0 :: st) h := am_rK am_m165 d_165_9 (by decide) rfl _ _ _
theorem d_165_10 : am_code 165 10 = some (.iconst 4, 1) := by decide +kernel
theorem s_165_10 (cl : am_C) (ls : am_Ls) (st : List am_V) (h : am_H) : am_go0 cl 165 10 ls st h = am_go0 cl 165 11 ls (.inl 4 :: st) h := am_rK am_m165 d_165_10 (by decide) rfl _ _ _
theorem d_165_11 : am_code 165 11 = some (.invokestatic 151, 3) := by decide +kernel
theorem s_165_11 (cl : am_C) (ls : am_Ls) (x0 : Int) (x1 : Int) (x2 : Int) (h : am_H) : am_go0 cl 165 11 ls [.inl x2, .inl x1, .inl x0] h = am_bd (cl 135 [.inl x0, .inl x1, .inl x2] h) (fun v h2 => am_go0 cl 165 14 ls (v.toList ++ []) h2) := am_rVs am_m165 d_165_11 am_k9151 rfl (Nat.le_of_ble_eq_true rfl) rfl ls
theorem d_165_14 : am_code 165 14 = some (.ifCond .ne 6, 3) := by decide +kernel
theorem s_165_14 (cl : am_C) (ls : am_Ls) (x : Int) (st : List am_V) (h : am_H) : am_go0 cl 165 14 ls (.inl x :: st) h = if x = 0 then am_go0 cl 165 17 ls st h else am_go0 cl 165 20 ls st h := (am_rJ1 am_m165 d_165_14 (by decide) rfl x ls st h).trans (am_ifF ((am_cmp_ne x 0).trans Iff.rfl) _ _)
theorem d_165_17 : am_code 165 17 = some (.bipush (-2), 2) := by decide +kernel
theorem s_165_17 (cl : am_C) (ls : am_Ls) (st : List am_V) (h : am_H) : am_go0 cl 165 17 ls st h = am_go0 cl 165 19 ls (.inl (-2) :: st) h := am_rB am_m165 d_165_17 (by decide) rfl _ _ _
theorem d_165_19 : am_code 165 19 = some (.ireturn, 1) := by decide +kernel
theorem s_165_19 (cl : am_C) (ls : am_Ls) (x : Int) (h : am_H) : am_go0 cl 165 19 ls [.inl x] h = some (some (.inl x), h) := am_rE am_m165 d_165_19 rfl
theorem d_165_20 : am_code 165 20 = some (.iload_n 2, 1) := by decide +kernel
theorem s_165_20 (cl : am_C) (a0 a1 : Option am_V) (x : Int) (st : List am_V) (h : am_H) : am_go0 cl 165 20 [a0, a1, some (.inl x)] st h = am_go0 cl 165 21 [a0, a1, some (.inl x)] (.inl x :: st) h := am_r am_m165 d_165_20 rfl
theorem d_165_21 : am_code 165 21 = some (.ifCond .ne 12, 3) := by decide +kernel
theorem s_165_21 (cl : am_C) (ls : am_Ls) (x : Int) (st : List am_V) (h : am_H) : am_go0 cl 165 21 ls (.inl x :: st) h = if x = 0 then am_go0 cl 165 24 ls st h else am_go0 cl 165 33 ls st h := (am_rJ1 am_m165 d_165_21 (by decide) rfl x ls st h).trans (am_ifF ((am_cmp_ne x 0).trans Iff.rfl) _ _)
theorem d_165_24 : am_code 165 24 = some (.aload_n 0, 1) := by decide +kernel
theorem s_165_24 (cl : am_C) (a1 a2 : Option am_V) (x : Nat) (st : List am_V) (h : am_H) : am_go0 cl 165 24 [some (.inr (.inr (some x))), a1, a2] st h = am_go0 cl 165 25 [some (.inr (.inr (some x))), a1, a2] (.inr (.inr (some x)) :: st) h := am_r am_m165 d_165_24 rfl
theorem d_165_25 : am_code 165 25 = some (.getfield 84, 3) := by decide +kernel
theorem s_165_25 (cl : am_C) (ls : am_Ls) (st : List am_V) (N : Nat) (I : Nat → Int → Int) (L : Nat → Int → Int64) : am_go0 cl 165 25 ls (.inr (.inr (some 53)) :: st) (am_GS N, am_GR, I, L) = am_go0 cl 165 28 ls (.inr (.inr (some 77)) :: st) (am_GS N, am_GR, I, L) := am_rG2 am_m165 d_165_25 am_f9084 rfl (gs_53 N) (by decide) gr_53_29 rfl
theorem d_165_28 : am_code 165 28 = some (.iload_n 1, 1) := by decide +kernel
theorem s_165_28 (cl : am_C) (a0 a2 : Option am_V) (x : Int) (st : List am_V) (h : am_H) : am_go0 cl 165 28 [a0, some (.inl x), a2] st h = am_go0 cl 165 29 [a0, some (.inl x), a2] (.inl x :: st) h := am_r am_m165 d_165_28 rfl
theorem d_165_29 : am_code 165 29 = some (.iaload, 1) := by decide +kernel
theorem s_165_29 (cl : am_C) (ls : am_Ls) (i : Int) (k : Nat) (st : List am_V) (N : Nat) (I : Nat → Int → Int) (L : Nat → Int → Int64) : am_go0 cl 165 29 ls (.inl i :: .inr (.inr (some k)) :: st) (am_GS N, am_GR, I, L) = if am_inb (am_GS N) k 0 i = true then am_go0 cl 165 30 ls (.inl (I k i) :: st) (am_GS N, am_GR, I, L) else none := am_rA am_m165 d_165_29 (by decide) rfl k ls st i _ _ I L
theorem d_165_30 : am_code 165 30 = some (.goto 49, 3) := by decide +kernel
theorem s_165_30 (cl : am_C) (ls : am_Ls) (st : List am_V) (h : am_H) : am_go0 cl 165 30 ls st h = am_go0 cl 165 79 ls st h := am_rGo am_m165 d_165_30 (by decide) _ _ _
theorem d_165_33 : am_code 165 33 = some (.iload_n 2, 1) := by decide +kernel
theorem s_165_33 (cl : am_C) (a0 a1 : Option am_V) (x : Int) (st : List am_V) (h : am_H) : am_go0 cl 165 33 [a0, a1, some (.inl x)] st h = am_go0 cl 165 34 [a0, a1, some (.inl x)] (.inl x :: st) h := am_r am_m165 d_165_33 rfl
theorem d_165_34 : am_code 165 34 = some (.iconst 1, 1) := by decide +kernel
theorem s_165_34 (cl : am_C) (ls : am_Ls) (st : List am_V) (h : am_H) : am_go0 cl 165 34 ls st h = am_go0 cl 165 35 ls (.inl 1 :: st) h := am_rK am_m165 d_165_34 (by decide) rfl _ _ _
theorem d_165_35 : am_code 165 35 = some (.if_icmp .ne 12, 3) := by decide +kernel
theorem s_165_35 (cl : am_C) (ls : am_Ls) (x y : Int) (st : List am_V) (h : am_H) : am_go0 cl 165 35 ls (.inl y :: .inl x :: st) h = if x = y then am_go0 cl 165 38 ls st h else am_go0 cl 165 47 ls st h := (am_rJ0 am_m165 d_165_35 (by decide) rfl x y ls st h).trans (am_ifF ((am_cmp_ne x y).trans Iff.rfl) _ _)
theorem d_165_38 : am_code 165 38 = some (.aload_n 0, 1) := by decide +kernel
theorem s_165_38 (cl : am_C) (a1 a2 : Option am_V) (x : Nat) (st : List am_V) (h : am_H) : am_go0 cl 165 38 [some (.inr (.inr (some x))), a1, a2] st h = am_go0 cl 165 39 [some (.inr (.inr (some x))), a1, a2] (.inr (.inr (some x)) :: st) h := am_r am_m165 d_165_38 rfl
theorem d_165_39 : am_code 165 39 = some (.getfield 87, 3) := by decide +kernel
theorem s_165_39 (cl : am_C) (ls : am_Ls) (st : List am_V) (N : Nat) (I : Nat → Int → Int) (L : Nat → Int → Int64) : am_go0 cl 165 39 ls (.inr (.inr (some 53)) :: st) (am_GS N, am_GR, I, L) = am_go0 cl 165 42 ls (.inr (.inr (some 78)) :: st) (am_GS N, am_GR, I, L) := am_rG2 am_m165 d_165_39 am_f9087 rfl (gs_53 N) (by decide) gr_53_30 rfl
theorem d_165_42 : am_code 165 42 = some (.iload_n 1, 1) := by decide +kernel
theorem s_165_42 (cl : am_C) (a0 a2 : Option am_V) (x : Int) (st : List am_V) (h : am_H) : am_go0 cl 165 42 [a0, some (.inl x), a2] st h = am_go0 cl 165 43 [a0, some (.inl x), a2] (.inl x :: st) h := am_r am_m165 d_165_42 rfl
theorem d_165_43 : am_code 165 43 = some (.iaload, 1) := by decide +kernel
theorem s_165_43 (cl : am_C) (ls : am_Ls) (i : Int) (k : Nat) (st : List am_V) (N : Nat) (I : Nat → Int → Int) (L : Nat → Int → Int64) : am_go0 cl 165 43 ls (.inl i :: .inr (.inr (some k)) :: st) (am_GS N, am_GR, I, L) = if am_inb (am_GS N) k 0 i = true then am_go0 cl 165 44 ls (.inl (I k i) :: st) (am_GS N, am_GR, I, L) else none := am_rA am_m165 d_165_43 (by decide) rfl k ls st i _ _ I L
theorem d_165_44 : am_code 165 44 = some (.goto 35, 3) := by decide +kernel
theorem s_165_44 (cl : am_C) (ls : am_Ls) (st : List am_V) (h : am_H) : am_go0 cl 165 44 ls st h = am_go0 cl 165 79 ls st h := am_rGo am_m165 d_165_44 (by decide) _ _ _
theorem d_165_47 : am_code 165 47 = some (.iload_n 2, 1) := by decide +kernel
theorem s_165_47 (cl : am_C) (a0 a1 : Option am_V) (x : Int) (st : List am_V) (h : am_H) : am_go0 cl 165 47 [a0, a1, some (.inl x)] st h = am_go0 cl 165 48 [a0, a1, some (.inl x)] (.inl x :: st) h := am_r am_m165 d_165_47 rfl
theorem d_165_48 : am_code 165 48 = some (.iconst 2, 1) := by decide +kernel
theorem s_165_48 (cl : am_C) (ls : am_Ls) (st : List am_V) (h : am_H) : am_go0 cl 165 48 ls st h = am_go0 cl 165 49 ls (.inl 2 :: st) h := am_rK am_m165 d_165_48 (by decide) rfl _ _ _
theorem d_165_49 : am_code 165 49 = some (.if_icmp .ne 12, 3) := by decide +kernel
theorem s_165_49 (cl : am_C) (ls : am_Ls) (x y : Int) (st : List am_V) (h : am_H) : am_go0 cl 165 49 ls (.inl y :: .inl x :: st) h = if x = y then am_go0 cl 165 52 ls st h else am_go0 cl 165 61 ls st h := (am_rJ0 am_m165 d_165_49 (by decide) rfl x y ls st h).trans (am_ifF ((am_cmp_ne x y).trans Iff.rfl) _ _)
theorem d_165_52 : am_code 165 52 = some (.aload_n 0, 1) := by decide +kernel
theorem s_165_52 (cl : am_C) (a1 a2 : Option am_V) (x : Nat) (st : List am_V) (h : am_H) : am_go0 cl 165 52 [some (.inr (.inr (some x))), a1, a2] st h = am_go0 cl 165 53 [some (.inr (.inr (some x))), a1, a2] (.inr (.inr (some x)) :: st) h := am_r am_m165 d_165_52 rfl
theorem d_165_53 : am_code 165 53 = some (.getfield 90, 3) := by decide +kernel
theorem s_165_53 (cl : am_C) (ls : am_Ls) (st : List am_V) (N : Nat) (I : Nat → Int → Int) (L : Nat → Int → Int64) : am_go0 cl 165 53 ls (.inr (.inr (some 53)) :: st) (am_GS N, am_GR, I, L) = am_go0 cl 165 56 ls (.inr (.inr (some 79)) :: st) (am_GS N, am_GR, I, L) := am_rG2 am_m165 d_165_53 am_f9090 rfl (gs_53 N) (by decide) gr_53_31 rfl
theorem d_165_56 : am_code 165 56 = some (.iload_n 1, 1) := by decide +kernel
theorem s_165_56 (cl : am_C) (a0 a2 : Option am_V) (x : Int) (st : List am_V) (h : am_H) : am_go0 cl 165 56 [a0, some (.inl x), a2] st h = am_go0 cl 165 57 [a0, some (.inl x), a2] (.inl x :: st) h := am_r am_m165 d_165_56 rfl
theorem d_165_57 : am_code 165 57 = some (.iaload, 1) := by decide +kernel
theorem s_165_57 (cl : am_C) (ls : am_Ls) (i : Int) (k : Nat) (st : List am_V) (N : Nat) (I : Nat → Int → Int) (L : Nat → Int → Int64) : am_go0 cl 165 57 ls (.inl i :: .inr (.inr (some k)) :: st) (am_GS N, am_GR, I, L) = if am_inb (am_GS N) k 0 i = true then am_go0 cl 165 58 ls (.inl (I k i) :: st) (am_GS N, am_GR, I, L) else none := am_rA am_m165 d_165_57 (by decide) rfl k ls st i _ _ I L
theorem d_165_58 : am_code 165 58 = some (.goto 21, 3) := by decide +kernel
theorem s_165_58 (cl : am_C) (ls : am_Ls) (st : List am_V) (h : am_H) : am_go0 cl 165 58 ls st h = am_go0 cl 165 79 ls st h := am_rGo am_m165 d_165_58 (by decide) _ _ _
theorem d_165_61 : am_code 165 61 = some (.iload_n 2, 1) := by decide +kernel
theorem s_165_61 (cl : am_C) (a0 a1 : Option am_V) (x : Int) (st : List am_V) (h : am_H) : am_go0 cl 165 61 [a0, a1, some (.inl x)] st h = am_go0 cl 165 62 [a0, a1, some (.inl x)] (.inl x :: st) h := am_r am_m165 d_165_61 rfl
theorem d_165_62 : am_code 165 62 = some (.iconst 3, 1) := by decide +kernel
theorem s_165_62 (cl : am_C) (ls : am_Ls) (st : List am_V) (h : am_H) : am_go0 cl 165 62 ls st h = am_go0 cl 165 63 ls (.inl 3 :: st) h := am_rK am_m165 d_165_62 (by decide) rfl _ _ _
theorem d_165_63 : am_code 165 63 = some (.if_icmp .ne 11, 3) := by decide +kernel
theorem s_165_63 (cl : am_C) (ls : am_Ls) (x y : Int) (st : List am_V) (h : am_H) : am_go0 cl 165 63 ls (.inl y :: .inl x :: st) h = if x = y then am_go0 cl 165 66 ls st h else am_go0 cl 165 74 ls st h := (am_rJ0 am_m165 d_165_63 (by decide) rfl x y ls st h).trans (am_ifF ((am_cmp_ne x y).trans Iff.rfl) _ _)
theorem d_165_66 : am_code 165 66 = some (.aload_n 0, 1) := by decide +kernel
theorem s_165_66 (cl : am_C) (a1 a2 : Option am_V) (x : Nat) (st : List am_V) (h : am_H) : am_go0 cl 165 66 [some (.inr (.inr (some x))), a1, a2] st h = am_go0 cl 165 67 [some (.inr (.inr (some x))), a1, a2] (.inr (.inr (some x)) :: st) h := am_r am_m165 d_165_66 rfl
theorem d_165_67 : am_code 165 67 = some (.iload_n 1, 1) := by decide +kernel
theorem s_165_67 (cl : am_C) (a0 a2 : Option am_V) (x : Int) (st : List am_V) (h : am_H) : am_go0 cl 165 67 [a0, some (.inl x), a2] st h = am_go0 cl 165 68 [a0, some (.inl x), a2] (.inl x :: st) h := am_r am_m165 d_165_67 rfl
theorem d_165_68 : am_code 165 68 = some (.invokevirtual 214, 3) := by decide +kernel
theorem s_165_68 (cl : am_C) (ls : am_Ls) (x0 : Int) (N : Nat) (I : Nat → Int → Int) (L : Nat → Int → Int64) : am_go0 cl 165 68 ls [.inl x0, .inr (.inr (some 53))] (am_GS N, am_GR, I, L) = am_bd (cl 160 [.inr (.inr (some 53)), .inl x0] (am_GS N, am_GR, I, L)) (fun v h2 => am_go0 cl 165 71 ls (v.toList ++ []) h2) := am_rV am_m165 d_165_68 am_k9214 rfl am_m160 (gs_53 N) (by decide) (Nat.le_of_ble_eq_true rfl) rfl ls
theorem d_165_71 : am_code 165 71 = some (.goto 8, 3) := by decide +kernel
theorem s_165_71 (cl : am_C) (ls : am_Ls) (st : List am_V) (h : am_H) : am_go0 cl 165 71 ls st h = am_go0 cl 165 79 ls st h := am_rGo am_m165 d_165_71 (by decide) _ _ _
theorem d_165_74 : am_code 165 74 = some (.aload_n 0, 1) := by decide +kernel
theorem s_165_74 (cl : am_C) (a1 a2 : Option am_V) (x : Nat) (st : List am_V) (h : am_H) : am_go0 cl 165 74 [some (.inr (.inr (some x))), a1, a2] st h = am_go0 cl 165 75 [some (.inr (.inr (some x))), a1, a2] (.inr (.inr (some x)) :: st) h := am_r am_m165 d_165_74 rfl
theorem d_165_75 : am_code 165 75 = some (.iload_n 1, 1) := by decide +kernel
theorem s_165_75 (cl : am_C) (a0 a2 : Option am_V) (x : Int) (st : List am_V) (h : am_H) : am_go0 cl 165 75 [a0, some (.inl x), a2] st h = am_go0 cl 165 76 [a0, some (.inl x), a2] (.inl x :: st) h := am_r am_m165 d_165_75 rfl
theorem d_165_76 : am_code 165 76 = some (.invokevirtual 226, 3) := by decide +kernel
theorem s_165_76 (cl : am_C) (ls : am_Ls) (x0 : Int) (N : Nat) (I : Nat → Int → Int) (L : Nat → Int → Int64) : am_go0 cl 165 76 ls [.inl x0, .inr (.inr (some 53))] (am_GS N, am_GR, I, L) = am_bd (cl 166 [.inr (.inr (some 53)), .inl x0] (am_GS N, am_GR, I, L)) (fun v h2 => am_go0 cl 165 79 ls (v.toList ++ []) h2) := am_rV am_m165 d_165_76 am_k9226 rfl am_m166 (gs_53 N) (by decide) (Nat.le_of_ble_eq_true rfl) rfl ls
theorem d_165_79 : am_code 165 79 = some (.ireturn, 1) := by decide +kernel
theorem s_165_79 (cl : am_C) (ls : am_Ls) (x : Int) (h : am_H) : am_go0 cl 165 79 ls [.inl x] h = some (some (.inl x), h) := am_rE am_m165 d_165_79 rfl
theorem e_165 (d : Nat) (t : Nat) (p0 : Int) (p1 : Int) (h : am_H) : am_call (d + 1) 165 [.inr (.inr (some t)), .inl p0, .inl p1] h = am_go0 (am_call d) 165 0 [some (.inr (.inr (some t))), some (.inl p0), some (.inl p1)] [] h := am_callE am_m165 (Nat.le_of_ble_eq_true rfl) rfl
theorem d_166_0 : am_code 166 0 = some (.iconst 0, 1) := by decide +kernel
theorem s_166_0 (cl : am_C) (ls : am_Ls) (st : List am_V) (h : am_H) : am_go0 cl 166 0 ls st h = am_go0 cl 166 1 ls (.inl 0 :: st) h := am_rK am_m166 d_166_0 (by decide) rfl _ _ _
theorem d_166_1 : am_code 166 1 = some (.istore_n 2, 1) := by decide +kernel
theorem s_166_1 (cl : am_C) (a0 a1 a2 a3 a4 : Option am_V) (x : Int) (st : List am_V) (h : am_H) : am_go0 cl 166 1 [a0, a1, a2, a3, a4] (.inl x :: st) h = am_go0 cl 166 2 [a0, am_c1 a1, some (.inl x), a3, a4] st h := am_r am_m166 d_166_1 rfl
theorem d_166_2 : am_code 166 2 = some (.iload_n 2, 1) := by decide +kernel
theorem s_166_2 (cl : am_C) (a0 a1 a3 a4 : Option am_V) (x : Int) (st : List am_V) (h : am_H) : am_go0 cl 166 2 [a0, a1, some (.inl x), a3, a4] st h = am_go0 cl 166 3 [a0, a1, some (.inl x), a3, a4] (.inl x :: st) h := am_r am_m166 d_166_2 rfl
theorem d_166_3 : am_code 166 3 = some (.bipush 60, 2) := by decide +kernel
theorem s_166_3 (cl : am_C) (ls : am_Ls) (st : List am_V) (h : am_H) : am_go0 cl 166 3 ls st h = am_go0 cl 166 5 ls (.inl 60 :: st) h := am_rB am_m166 d_166_3 (by decide) rfl _ _ _
theorem d_166_5 : am_code 166 5 = some (.if_icmp .ge 25, 3) := by decide +kernel
theorem s_166_5 (cl : am_C) (ls : am_Ls) (x y : Int) (st : List am_V) (h : am_H) : am_go0 cl 166 5 ls (.inl y :: .inl x :: st) h = if x < y then am_go0 cl 166 8 ls st h else am_go0 cl 166 30 ls st h := (am_rJ0 am_m166 d_166_5 (by decide) rfl x y ls st h).trans (am_ifF ((am_cmp_ge x y).trans Int.not_lt.symm) _ _)
theorem d_166_8 : am_code 166 8 = some (.aload_n 0, 1) := by decide +kernel
theorem s_166_8 (cl : am_C) (a1 a2 a3 a4 : Option am_V) (x : Nat) (st : List am_V) (h : am_H) : am_go0 cl 166 8 [some (.inr (.inr (some x))), a1, a2, a3, a4] st h = am_go0 cl 166 9 [some (.inr (.inr (some x))), a1, a2, a3, a4] (.inr (.inr (some x)) :: st) h := am_r am_m166 d_166_8 rfl
theorem d_166_9 : am_code 166 9 = some (.getfield 121, 3) := by decide +kernel
theorem s_166_9 (cl : am_C) (ls : am_Ls) (st : List am_V) (N : Nat) (I : Nat → Int → Int) (L : Nat → Int → Int64) : am_go0 cl 166 9 ls (.inr (.inr (some 53)) :: st) (am_GS N, am_GR, I, L) = am_go0 cl 166 12 ls (.inr (.inr (some 87)) :: st) (am_GS N, am_GR, I, L) := am_rG2 am_m166 d_166_9 am_f9121 rfl (gs_53 N) (by decide) gr_53_41 rfl
theorem d_166_12 : am_code 166 12 = some (.iload_n 2, 1) := by decide +kernel
theorem s_166_12 (cl : am_C) (a0 a1 a3 a4 : Option am_V) (x : Int) (st : List am_V) (h : am_H) : am_go0 cl 166 12 [a0, a1, some (.inl x), a3, a4] st h = am_go0 cl 166 13 [a0, a1, some (.inl x), a3, a4] (.inl x :: st) h := am_r am_m166 d_166_12 rfl
theorem d_166_13 : am_code 166 13 = some (.iload_n 2, 1) := by decide +kernel
theorem s_166_13 (cl : am_C) (a0 a1 a3 a4 : Option am_V) (x : Int) (st : List am_V) (h : am_H) : am_go0 cl 166 13 [a0, a1, some (.inl x), a3, a4] st h = am_go0 cl 166 14 [a0, a1, some (.inl x), a3, a4] (.inl x :: st) h := am_r am_m166 d_166_13 rfl
theorem d_166_14 : am_code 166 14 = some (.iload_n 1, 1) := by decide +kernel
theorem s_166_14 (cl : am_C) (a0 a2 a3 a4 : Option am_V) (x : Int) (st : List am_V) (h : am_H) : am_go0 cl 166 14 [a0, some (.inl x), a2, a3, a4] st h = am_go0 cl 166 15 [a0, some (.inl x), a2, a3, a4] (.inl x :: st) h := am_r am_m166 d_166_14 rfl
theorem d_166_15 : am_code 166 15 = some (.if_icmp .ne 7, 3) := by decide +kernel
theorem s_166_15 (cl : am_C) (ls : am_Ls) (x y : Int) (st : List am_V) (h : am_H) : am_go0 cl 166 15 ls (.inl y :: .inl x :: st) h = if x = y then am_go0 cl 166 18 ls st h else am_go0 cl 166 22 ls st h := (am_rJ0 am_m166 d_166_15 (by decide) rfl x y ls st h).trans (am_ifF ((am_cmp_ne x y).trans Iff.rfl) _ _)
theorem d_166_18 : am_code 166 18 = some (.iconst 1, 1) := by decide +kernel
theorem s_166_18 (cl : am_C) (ls : am_Ls) (st : List am_V) (h : am_H) : am_go0 cl 166 18 ls st h = am_go0 cl 166 19 ls (.inl 1 :: st) h := am_rK am_m166 d_166_18 (by decide) rfl _ _ _
theorem d_166_19 : am_code 166 19 = some (.goto 4, 3) := by decide +kernel
theorem s_166_19 (cl : am_C) (ls : am_Ls) (st : List am_V) (h : am_H) : am_go0 cl 166 19 ls st h = am_go0 cl 166 23 ls st h := am_rGo am_m166 d_166_19 (by decide) _ _ _
theorem d_166_22 : am_code 166 22 = some (.iconst 0, 1) := by decide +kernel
theorem s_166_22 (cl : am_C) (ls : am_Ls) (st : List am_V) (h : am_H) : am_go0 cl 166 22 ls st h = am_go0 cl 166 23 ls (.inl 0 :: st) h := am_rK am_m166 d_166_22 (by decide) rfl _ _ _
theorem d_166_23 : am_code 166 23 = some (.bastore, 1) := by decide +kernel
theorem s_166_23 (cl : am_C) (ls : am_Ls) (i : Int) (v : Int) (k : Nat) (st : List am_V) (N : Nat) (I : Nat → Int → Int) (L : Nat → Int → Int64) : am_go0 cl 166 23 ls (.inl v :: .inl i :: .inr (.inr (some k)) :: st) (am_GS N, am_GR, I, L) = if am_inb (am_GS N) k 2 i = true ∧ (v = 0 ∨ v = 1) then am_go0 cl 166 24 ls st (am_GS N, am_GR, am_uI I k i v, L) else none := am_rSb am_m166 d_166_23 rfl k ls st i v _ _ I L
theorem d_166_24 : am_code 166 24 = some (.iinc 2 1, 3) := by decide +kernel
theorem s_166_24 (cl : am_C) (a0 a1 a3 a4 : Option am_V) (x : Int) (st : List am_V) (h : am_H) : am_go0 cl 166 24 [a0, a1, some (.inl x), a3, a4] st h = am_go0 cl 166 27 [a0, am_c1 a1, some (.inl (am_wr (x + 1))), a3, a4] st h := am_r am_m166 d_166_24 rfl
theorem d_166_27 : am_code 166 27 = some (.goto (-25), 3) := by decide +kernel
theorem s_166_27 (cl : am_C) (ls : am_Ls) (st : List am_V) (h : am_H) : am_go0 cl 166 27 ls st h = am_go0 cl 166 2 ls st h := am_rGo am_m166 d_166_27 (by decide) _ _ _
theorem d_166_30 : am_code 166 30 = some (.iconst 1, 1) := by decide +kernel
theorem s_166_30 (cl : am_C) (ls : am_Ls) (st : List am_V) (h : am_H) : am_go0 cl 166 30 ls st h = am_go0 cl 166 31 ls (.inl 1 :: st) h := am_rK am_m166 d_166_30 (by decide) rfl _ _ _
theorem d_166_31 : am_code 166 31 = some (.istore_n 2, 1) := by decide +kernel
theorem s_166_31 (cl : am_C) (a0 a1 a2 a3 a4 : Option am_V) (x : Int) (st : List am_V) (h : am_H) : am_go0 cl 166 31 [a0, a1, a2, a3, a4] (.inl x :: st) h = am_go0 cl 166 32 [a0, am_c1 a1, some (.inl x), a3, a4] st h := am_r am_m166 d_166_31 rfl
theorem d_166_32 : am_code 166 32 = some (.iload_n 2, 1) := by decide +kernel
theorem s_166_32 (cl : am_C) (a0 a1 a3 a4 : Option am_V) (x : Int) (st : List am_V) (h : am_H) : am_go0 cl 166 32 [a0, a1, some (.inl x), a3, a4] st h = am_go0 cl 166 33 [a0, a1, some (.inl x), a3, a4] (.inl x :: st) h := am_r am_m166 d_166_32 rfl
theorem d_166_33 : am_code 166 33 = some (.ifCond .eq 98, 3) := by decide +kernel
theorem s_166_33 (cl : am_C) (ls : am_Ls) (x : Int) (st : List am_V) (h : am_H) : am_go0 cl 166 33 ls (.inl x :: st) h = if x = 0 then am_go0 cl 166 131 ls st h else am_go0 cl 166 36 ls st h := (am_rJ1 am_m166 d_166_33 (by decide) rfl x ls st h).trans (am_ifT (am_cmp_eq x 0) _ _)
theorem d_166_36 : am_code 166 36 = some (.iconst 0, 1) := by decide +kernel
theorem s_166_36 (cl : am_C) (ls : am_Ls) (st : List am_V) (h : am_H) : am_go0 cl 166 36 ls st h = am_go0 cl 166 37 ls (.inl 0 :: st) h := am_rK am_m166 d_166_36 (by decide) rfl _ _ _
theorem d_166_37 : am_code 166 37 = some (.istore_n 2, 1) := by decide +kernel
theorem s_166_37 (cl : am_C) (a0 a1 a2 a3 a4 : Option am_V) (x : Int) (st : List am_V) (h : am_H) : am_go0 cl 166 37 [a0, a1, a2, a3, a4] (.inl x :: st) h = am_go0 cl 166 38 [a0, am_c1 a1, some (.inl x), a3, a4] st h := am_r am_m166 d_166_37 rfl
theorem d_166_38 : am_code 166 38 = some (.iconst 0, 1) := by decide +kernel
theorem s_166_38 (cl : am_C) (ls : am_Ls) (st : List am_V) (h : am_H) : am_go0 cl 166 38 ls st h = am_go0 cl 166 39 ls (.inl 0 :: st) h := am_rK am_m166 d_166_38 (by decide) rfl _ _ _
theorem d_166_39 : am_code 166 39 = some (.istore_n 3, 1) := by decide +kernel
theorem s_166_39 (cl : am_C) (a0 a1 a2 a3 a4 : Option am_V) (x : Int) (st : List am_V) (h : am_H) : am_go0 cl 166 39 [a0, a1, a2, a3, a4] (.inl x :: st) h = am_go0 cl 166 40 [a0, a1, am_c1 a2, some (.inl x), a4] st h := am_r am_m166 d_166_39 rfl
theorem d_166_40 : am_code 166 40 = some (.iload_n 3, 1) := by decide +kernel
theorem s_166_40 (cl : am_C) (a0 a1 a2 a4 : Option am_V) (x : Int) (st : List am_V) (h : am_H) : am_go0 cl 166 40 [a0, a1, a2, some (.inl x), a4] st h = am_go0 cl 166 41 [a0, a1, a2, some (.inl x), a4] (.inl x :: st) h := am_r am_m166 d_166_40 rfl
theorem d_166_41 : am_code 166 41 = some (.aload_n 0, 1) := by decide +kernel
theorem s_166_41 (cl : am_C) (a1 a2 a3 a4 : Option am_V) (x : Nat) (st : List am_V) (h : am_H) : am_go0 cl 166 41 [some (.inr (.inr (some x))), a1, a2, a3, a4] st h = am_go0 cl 166 42 [some (.inr (.inr (some x))), a1, a2, a3, a4] (.inr (.inr (some x)) :: st) h := am_r am_m166 d_166_41 rfl
theorem d_166_42 : am_code 166 42 = some (.getfield 172, 3) := by decide +kernel
theorem s_166_42 (cl : am_C) (ls : am_Ls) (st : List am_V) (N : Nat) (I : Nat → Int → Int) (L : Nat → Int → Int64) : am_go0 cl 166 42 ls (.inr (.inr (some 53)) :: st) (am_GS N, am_GR, I, L) = am_go0 cl 166 45 ls (.inl (I 53 28) :: st) (am_GS N, am_GR, I, L) := am_rG0 am_m166 d_166_42 am_f9172 rfl (gs_53 N) (by decide) rfl
theorem d_166_45 : am_code 166 45 = some (.if_icmp .ge 83, 3) := by decide +kernel
theorem s_166_45 (cl : am_C) (ls : am_Ls) (x y : Int) (st : List am_V) (h : am_H) : am_go0 cl 166 45 ls (.inl y :: .inl x :: st) h = if x < y then am_go0 cl 166 48 ls st h else am_go0 cl 166 128 ls st h := (am_rJ0 am_m166 d_166_45 (by decide) rfl x y ls st h).trans (am_ifF ((am_cmp_ge x y).trans Int.not_lt.symm) _ _)
theorem d_166_48 : am_code 166 48 = some (.iconst 0, 1) := by decide +kernel
theorem s_166_48 (cl : am_C) (ls : am_Ls) (st : List am_V) (h : am_H) : am_go0 cl 166 48 ls st h = am_go0 cl 166 49 ls (.inl 0 :: st) h := am_rK am_m166 d_166_48 (by decide) rfl _ _ _
theorem d_166_49 : am_code 166 49 = some (.istore 4, 2) := by decide +kernel
theorem s_166_49 (cl : am_C) (a0 a1 a2 a3 a4 : Option am_V) (x : Int) (st : List am_V) (h : am_H) : am_go0 cl 166 49 [a0, a1, a2, a3, a4] (.inl x :: st) h = am_go0 cl 166 51 [a0, a1, a2, am_c1 a3, some (.inl x)] st h := am_r am_m166 d_166_49 rfl
theorem d_166_51 : am_code 166 51 = some (.aload_n 0, 1) := by decide +kernel
theorem s_166_51 (cl : am_C) (a1 a2 a3 a4 : Option am_V) (x : Nat) (st : List am_V) (h : am_H) : am_go0 cl 166 51 [some (.inr (.inr (some x))), a1, a2, a3, a4] st h = am_go0 cl 166 52 [some (.inr (.inr (some x))), a1, a2, a3, a4] (.inr (.inr (some x)) :: st) h := am_r am_m166 d_166_51 rfl
theorem d_166_52 : am_code 166 52 = some (.getfield 121, 3) := by decide +kernel
theorem s_166_52 (cl : am_C) (ls : am_Ls) (st : List am_V) (N : Nat) (I : Nat → Int → Int) (L : Nat → Int → Int64) : am_go0 cl 166 52 ls (.inr (.inr (some 53)) :: st) (am_GS N, am_GR, I, L) = am_go0 cl 166 55 ls (.inr (.inr (some 87)) :: st) (am_GS N, am_GR, I, L) := am_rG2 am_m166 d_166_52 am_f9121 rfl (gs_53 N) (by decide) gr_53_41 rfl
theorem d_166_55 : am_code 166 55 = some (.iload_n 3, 1) := by decide +kernel
theorem s_166_55 (cl : am_C) (a0 a1 a2 a4 : Option am_V) (x : Int) (st : List am_V) (h : am_H) : am_go0 cl 166 55 [a0, a1, a2, some (.inl x), a4] st h = am_go0 cl 166 56 [a0, a1, a2, some (.inl x), a4] (.inl x :: st) h := am_r am_m166 d_166_55 rfl
theorem d_166_56 : am_code 166 56 = some (.baload, 1) := by decide +kernel
theorem s_166_56 (cl : am_C) (ls : am_Ls) (i : Int) (k : Nat) (st : List am_V) (N : Nat) (I : Nat → Int → Int) (L : Nat → Int → Int64) : am_go0 cl 166 56 ls (.inl i :: .inr (.inr (some k)) :: st) (am_GS N, am_GR, I, L) = if am_inb (am_GS N) k 2 i = true then am_go0 cl 166 57 ls (.inl (I k i) :: st) (am_GS N, am_GR, I, L) else none := am_rAb am_m166 d_166_56 rfl k ls st i _ _ I L
theorem d_166_57 : am_code 166 57 = some (.ifCond .eq 65, 3) := by decide +kernel
theorem s_166_57 (cl : am_C) (ls : am_Ls) (x : Int) (st : List am_V) (h : am_H) : am_go0 cl 166 57 ls (.inl x :: st) h = if x = 0 then am_go0 cl 166 122 ls st h else am_go0 cl 166 60 ls st h := (am_rJ1 am_m166 d_166_57 (by decide) rfl x ls st h).trans (am_ifT (am_cmp_eq x 0) _ _)
theorem d_166_60 : am_code 166 60 = some (.iload 4, 2) := by decide +kernel
theorem s_166_60 (cl : am_C) (a0 a1 a2 a3 : Option am_V) (x : Int) (st : List am_V) (h : am_H) : am_go0 cl 166 60 [a0, a1, a2, a3, some (.inl x)] st h = am_go0 cl 166 62 [a0, a1, a2, a3, some (.inl x)] (.inl x :: st) h := am_r am_m166 d_166_60 rfl
theorem d_166_62 : am_code 166 62 = some (.aload_n 0, 1) := by decide +kernel
theorem s_166_62 (cl : am_C) (a1 a2 a3 a4 : Option am_V) (x : Nat) (st : List am_V) (h : am_H) : am_go0 cl 166 62 [some (.inr (.inr (some x))), a1, a2, a3, a4] st h = am_go0 cl 166 63 [some (.inr (.inr (some x))), a1, a2, a3, a4] (.inr (.inr (some x)) :: st) h := am_r am_m166 d_166_62 rfl
theorem d_166_63 : am_code 166 63 = some (.iload_n 3, 1) := by decide +kernel
theorem s_166_63 (cl : am_C) (a0 a1 a2 a4 : Option am_V) (x : Int) (st : List am_V) (h : am_H) : am_go0 cl 166 63 [a0, a1, a2, some (.inl x), a4] st h = am_go0 cl 166 64 [a0, a1, a2, some (.inl x), a4] (.inl x :: st) h := am_r am_m166 d_166_63 rfl
theorem d_166_64 : am_code 166 64 = some (.invokevirtual 214, 3) := by decide +kernel
theorem s_166_64 (cl : am_C) (ls : am_Ls) (x0 : Int) (z0 : Int) (N : Nat) (I : Nat → Int → Int) (L : Nat → Int → Int64) : am_go0 cl 166 64 ls [.inl x0, .inr (.inr (some 53)), .inl z0] (am_GS N, am_GR, I, L) = am_bd (cl 160 [.inr (.inr (some 53)), .inl x0] (am_GS N, am_GR, I, L)) (fun v h2 => am_go0 cl 166 67 ls (v.toList ++ [.inl z0]) h2) := am_rV am_m166 d_166_64 am_k9214 rfl am_m160 (gs_53 N) (by decide) (Nat.le_of_ble_eq_true rfl) rfl ls
theorem d_166_67 : am_code 166 67 = some (.if_icmp .ge 55, 3) := by decide +kernel
theorem s_166_67 (cl : am_C) (ls : am_Ls) (x y : Int) (st : List am_V) (h : am_H) : am_go0 cl 166 67 ls (.inl y :: .inl x :: st) h = if x < y then am_go0 cl 166 70 ls st h else am_go0 cl 166 122 ls st h := (am_rJ0 am_m166 d_166_67 (by decide) rfl x y ls st h).trans (am_ifF ((am_cmp_ge x y).trans Int.not_lt.symm) _ _)
theorem d_166_70 : am_code 166 70 = some (.iload_n 2, 1) := by decide +kernel
theorem s_166_70 (cl : am_C) (a0 a1 a3 a4 : Option am_V) (x : Int) (st : List am_V) (h : am_H) : am_go0 cl 166 70 [a0, a1, some (.inl x), a3, a4] st h = am_go0 cl 166 71 [a0, a1, some (.inl x), a3, a4] (.inl x :: st) h := am_r am_m166 d_166_70 rfl
theorem d_166_71 : am_code 166 71 = some (.aload_n 0, 1) := by decide +kernel
theorem s_166_71 (cl : am_C) (a1 a2 a3 a4 : Option am_V) (x : Nat) (st : List am_V) (h : am_H) : am_go0 cl 166 71 [some (.inr (.inr (some x))), a1, a2, a3, a4] st h = am_go0 cl 166 72 [some (.inr (.inr (some x))), a1, a2, a3, a4] (.inr (.inr (some x)) :: st) h := am_r am_m166 d_166_71 rfl
theorem d_166_72 : am_code 166 72 = some (.getfield 121, 3) := by decide +kernel
theorem s_166_72 (cl : am_C) (ls : am_Ls) (st : List am_V) (N : Nat) (I : Nat → Int → Int) (L : Nat → Int → Int64) : am_go0 cl 166 72 ls (.inr (.inr (some 53)) :: st) (am_GS N, am_GR, I, L) = am_go0 cl 166 75 ls (.inr (.inr (some 87)) :: st) (am_GS N, am_GR, I, L) := am_rG2 am_m166 d_166_72 am_f9121 rfl (gs_53 N) (by decide) gr_53_41 rfl
theorem d_166_75 : am_code 166 75 = some (.aload_n 0, 1) := by decide +kernel
theorem s_166_75 (cl : am_C) (a1 a2 a3 a4 : Option am_V) (x : Nat) (st : List am_V) (h : am_H) : am_go0 cl 166 75 [some (.inr (.inr (some x))), a1, a2, a3, a4] st h = am_go0 cl 166 76 [some (.inr (.inr (some x))), a1, a2, a3, a4] (.inr (.inr (some x)) :: st) h := am_r am_m166 d_166_75 rfl
theorem d_166_76 : am_code 166 76 = some (.getfield 93, 3) := by decide +kernel
theorem s_166_76 (cl : am_C) (ls : am_Ls) (st : List am_V) (N : Nat) (I : Nat → Int → Int) (L : Nat → Int → Int64) : am_go0 cl 166 76 ls (.inr (.inr (some 53)) :: st) (am_GS N, am_GR, I, L) = am_go0 cl 166 79 ls (.inr (.inr (some 80)) :: st) (am_GS N, am_GR, I, L) := am_rG2 am_m166 d_166_76 am_f9093 rfl (gs_53 N) (by decide) gr_53_32 rfl
theorem d_166_79 : am_code 166 79 = some (.bipush 6, 2) := by decide +kernel
theorem s_166_79 (cl : am_C) (ls : am_Ls) (st : List am_V) (h : am_H) : am_go0 cl 166 79 ls st h = am_go0 cl 166 81 ls (.inl 6 :: st) h := am_rB am_m166 d_166_79 (by decide) rfl _ _ _
theorem d_166_81 : am_code 166 81 = some (.iload_n 3, 1) := by decide +kernel
theorem s_166_81 (cl : am_C) (a0 a1 a2 a4 : Option am_V) (x : Int) (st : List am_V) (h : am_H) : am_go0 cl 166 81 [a0, a1, a2, some (.inl x), a4] st h = am_go0 cl 166 82 [a0, a1, a2, some (.inl x), a4] (.inl x :: st) h := am_r am_m166 d_166_81 rfl
theorem d_166_82 : am_code 166 82 = some (.imul, 1) := by decide +kernel
theorem s_166_82 (cl : am_C) (ls : am_Ls) (x y : Int) (st : List am_V) (h : am_H) : am_go0 cl 166 82 ls (.inl y :: .inl x :: st) h = am_go0 cl 166 83 ls (.inl (am_wr (x * y)) :: st) h := am_r am_m166 d_166_82 rfl
theorem d_166_83 : am_code 166 83 = some (.iload 4, 2) := by decide +kernel
theorem s_166_83 (cl : am_C) (a0 a1 a2 a3 : Option am_V) (x : Int) (st : List am_V) (h : am_H) : am_go0 cl 166 83 [a0, a1, a2, a3, some (.inl x)] st h = am_go0 cl 166 85 [a0, a1, a2, a3, some (.inl x)] (.inl x :: st) h := am_r am_m166 d_166_83 rfl
theorem d_166_85 : am_code 166 85 = some (.iadd, 1) := by decide +kernel
theorem s_166_85 (cl : am_C) (ls : am_Ls) (x y : Int) (st : List am_V) (h : am_H) : am_go0 cl 166 85 ls (.inl y :: .inl x :: st) h = am_go0 cl 166 86 ls (.inl (am_wr (x + y)) :: st) h := am_r am_m166 d_166_85 rfl
theorem d_166_86 : am_code 166 86 = some (.iaload, 1) := by decide +kernel
theorem s_166_86 (cl : am_C) (ls : am_Ls) (i : Int) (k : Nat) (st : List am_V) (N : Nat) (I : Nat → Int → Int) (L : Nat → Int → Int64) : am_go0 cl 166 86 ls (.inl i :: .inr (.inr (some k)) :: st) (am_GS N, am_GR, I, L) = if am_inb (am_GS N) k 0 i = true then am_go0 cl 166 87 ls (.inl (I k i) :: st) (am_GS N, am_GR, I, L) else none := am_rA am_m166 d_166_86 (by decide) rfl k ls st i _ _ I L
theorem d_166_87 : am_code 166 87 = some (.baload, 1) := by decide +kernel
theorem s_166_87 (cl : am_C) (ls : am_Ls) (i : Int) (k : Nat) (st : List am_V) (N : Nat) (I : Nat → Int → Int) (L : Nat → Int → Int64) : am_go0 cl 166 87 ls (.inl i :: .inr (.inr (some k)) :: st) (am_GS N, am_GR, I, L) = if am_inb (am_GS N) k 2 i = true then am_go0 cl 166 88 ls (.inl (I k i) :: st) (am_GS N, am_GR, I, L) else none := am_rAb am_m166 d_166_87 rfl k ls st i _ _ I L
theorem d_166_88 : am_code 166 88 = some (.ifCond .ne 7, 3) := by decide +kernel
theorem s_166_88 (cl : am_C) (ls : am_Ls) (x : Int) (st : List am_V) (h : am_H) : am_go0 cl 166 88 ls (.inl x :: st) h = if x = 0 then am_go0 cl 166 91 ls st h else am_go0 cl 166 95 ls st h := (am_rJ1 am_m166 d_166_88 (by decide) rfl x ls st h).trans (am_ifF ((am_cmp_ne x 0).trans Iff.rfl) _ _)
theorem d_166_91 : am_code 166 91 = some (.iconst 1, 1) := by decide +kernel
theorem s_166_91 (cl : am_C) (ls : am_Ls) (st : List am_V) (h : am_H) : am_go0 cl 166 91 ls st h = am_go0 cl 166 92 ls (.inl 1 :: st) h := am_rK am_m166 d_166_91 (by decide) rfl _ _ _
theorem d_166_92 : am_code 166 92 = some (.goto 4, 3) := by decide +kernel
theorem s_166_92 (cl : am_C) (ls : am_Ls) (st : List am_V) (h : am_H) : am_go0 cl 166 92 ls st h = am_go0 cl 166 96 ls st h := am_rGo am_m166 d_166_92 (by decide) _ _ _
theorem d_166_95 : am_code 166 95 = some (.iconst 0, 1) := by decide +kernel
theorem s_166_95 (cl : am_C) (ls : am_Ls) (st : List am_V) (h : am_H) : am_go0 cl 166 95 ls st h = am_go0 cl 166 96 ls (.inl 0 :: st) h := am_rK am_m166 d_166_95 (by decide) rfl _ _ _
theorem d_166_96 : am_code 166 96 = some (.ior, 1) := by decide +kernel
theorem s_166_96 (cl : am_C) (ls : am_Ls) (x y : Int) (st : List am_V) (h : am_H) : am_go0 cl 166 96 ls (.inl y :: .inl x :: st) h = am_go0 cl 166 97 ls (.inl ((Int32.ofInt x ||| Int32.ofInt y).toInt) :: st) h := am_r am_m166 d_166_96 rfl
theorem d_166_97 : am_code 166 97 = some (.istore_n 2, 1) := by decide +kernel
theorem s_166_97 (cl : am_C) (a0 a1 a2 a3 a4 : Option am_V) (x : Int) (st : List am_V) (h : am_H) : am_go0 cl 166 97 [a0, a1, a2, a3, a4] (.inl x :: st) h = am_go0 cl 166 98 [a0, am_c1 a1, some (.inl x), a3, a4] st h := am_r am_m166 d_166_97 rfl
theorem d_166_98 : am_code 166 98 = some (.aload_n 0, 1) := by decide +kernel
theorem s_166_98 (cl : am_C) (a1 a2 a3 a4 : Option am_V) (x : Nat) (st : List am_V) (h : am_H) : am_go0 cl 166 98 [some (.inr (.inr (some x))), a1, a2, a3, a4] st h = am_go0 cl 166 99 [some (.inr (.inr (some x))), a1, a2, a3, a4] (.inr (.inr (some x)) :: st) h := am_r am_m166 d_166_98 rfl
theorem d_166_99 : am_code 166 99 = some (.getfield 121, 3) := by decide +kernel
theorem s_166_99 (cl : am_C) (ls : am_Ls) (st : List am_V) (N : Nat) (I : Nat → Int → Int) (L : Nat → Int → Int64) : am_go0 cl 166 99 ls (.inr (.inr (some 53)) :: st) (am_GS N, am_GR, I, L) = am_go0 cl 166 102 ls (.inr (.inr (some 87)) :: st) (am_GS N, am_GR, I, L) := am_rG2 am_m166 d_166_99 am_f9121 rfl (gs_53 N) (by decide) gr_53_41 rfl
theorem d_166_102 : am_code 166 102 = some (.aload_n 0, 1) := by decide +kernel
theorem s_166_102 (cl : am_C) (a1 a2 a3 a4 : Option am_V) (x : Nat) (st : List am_V) (h : am_H) : am_go0 cl 166 102 [some (.inr (.inr (some x))), a1, a2, a3, a4] st h = am_go0 cl 166 103 [some (.inr (.inr (some x))), a1, a2, a3, a4] (.inr (.inr (some x)) :: st) h := am_r am_m166 d_166_102 rfl
theorem d_166_103 : am_code 166 103 = some (.getfield 93, 3) := by decide +kernel
theorem s_166_103 (cl : am_C) (ls : am_Ls) (st : List am_V) (N : Nat) (I : Nat → Int → Int) (L : Nat → Int → Int64) : am_go0 cl 166 103 ls (.inr (.inr (some 53)) :: st) (am_GS N, am_GR, I, L) = am_go0 cl 166 106 ls (.inr (.inr (some 80)) :: st) (am_GS N, am_GR, I, L) := am_rG2 am_m166 d_166_103 am_f9093 rfl (gs_53 N) (by decide) gr_53_32 rfl
theorem d_166_106 : am_code 166 106 = some (.bipush 6, 2) := by decide +kernel
theorem s_166_106 (cl : am_C) (ls : am_Ls) (st : List am_V) (h : am_H) : am_go0 cl 166 106 ls st h = am_go0 cl 166 108 ls (.inl 6 :: st) h := am_rB am_m166 d_166_106 (by decide) rfl _ _ _
theorem d_166_108 : am_code 166 108 = some (.iload_n 3, 1) := by decide +kernel
theorem s_166_108 (cl : am_C) (a0 a1 a2 a4 : Option am_V) (x : Int) (st : List am_V) (h : am_H) : am_go0 cl 166 108 [a0, a1, a2, some (.inl x), a4] st h = am_go0 cl 166 109 [a0, a1, a2, some (.inl x), a4] (.inl x :: st) h := am_r am_m166 d_166_108 rfl
theorem d_166_109 : am_code 166 109 = some (.imul, 1) := by decide +kernel
theorem s_166_109 (cl : am_C) (ls : am_Ls) (x y : Int) (st : List am_V) (h : am_H) : am_go0 cl 166 109 ls (.inl y :: .inl x :: st) h = am_go0 cl 166 110 ls (.inl (am_wr (x * y)) :: st) h := am_r am_m166 d_166_109 rfl
theorem d_166_110 : am_code 166 110 = some (.iload 4, 2) := by decide +kernel
theorem s_166_110 (cl : am_C) (a0 a1 a2 a3 : Option am_V) (x : Int) (st : List am_V) (h : am_H) : am_go0 cl 166 110 [a0, a1, a2, a3, some (.inl x)] st h = am_go0 cl 166 112 [a0, a1, a2, a3, some (.inl x)] (.inl x :: st) h := am_r am_m166 d_166_110 rfl
theorem d_166_112 : am_code 166 112 = some (.iadd, 1) := by decide +kernel
theorem s_166_112 (cl : am_C) (ls : am_Ls) (x y : Int) (st : List am_V) (h : am_H) : am_go0 cl 166 112 ls (.inl y :: .inl x :: st) h = am_go0 cl 166 113 ls (.inl (am_wr (x + y)) :: st) h := am_r am_m166 d_166_112 rfl
theorem d_166_113 : am_code 166 113 = some (.iaload, 1) := by decide +kernel
theorem s_166_113 (cl : am_C) (ls : am_Ls) (i : Int) (k : Nat) (st : List am_V) (N : Nat) (I : Nat → Int → Int) (L : Nat → Int → Int64) : am_go0 cl 166 113 ls (.inl i :: .inr (.inr (some k)) :: st) (am_GS N, am_GR, I, L) = if am_inb (am_GS N) k 0 i = true then am_go0 cl 166 114 ls (.inl (I k i) :: st) (am_GS N, am_GR, I, L) else none := am_rA am_m166 d_166_113 (by decide) rfl k ls st i _ _ I L
theorem d_166_114 : am_code 166 114 = some (.iconst 1, 1) := by decide +kernel
theorem s_166_114 (cl : am_C) (ls : am_Ls) (st : List am_V) (h : am_H) : am_go0 cl 166 114 ls st h = am_go0 cl 166 115 ls (.inl 1 :: st) h := am_rK am_m166 d_166_114 (by decide) rfl _ _ _
theorem d_166_115 : am_code 166 115 = some (.bastore, 1) := by decide +kernel
theorem s_166_115 (cl : am_C) (ls : am_Ls) (i : Int) (v : Int) (k : Nat) (st : List am_V) (N : Nat) (I : Nat → Int → Int) (L : Nat → Int → Int64) : am_go0 cl 166 115 ls (.inl v :: .inl i :: .inr (.inr (some k)) :: st) (am_GS N, am_GR, I, L) = if am_inb (am_GS N) k 2 i = true ∧ (v = 0 ∨ v = 1) then am_go0 cl 166 116 ls st (am_GS N, am_GR, am_uI I k i v, L) else none := am_rSb am_m166 d_166_115 rfl k ls st i v _ _ I L
theorem d_166_116 : am_code 166 116 = some (.iinc 4 1, 3) := by decide +kernel
theorem s_166_116 (cl : am_C) (a0 a1 a2 a3 : Option am_V) (x : Int) (st : List am_V) (h : am_H) : am_go0 cl 166 116 [a0, a1, a2, a3, some (.inl x)] st h = am_go0 cl 166 119 [a0, a1, a2, am_c1 a3, some (.inl (am_wr (x + 1)))] st h := am_r am_m166 d_166_116 rfl
theorem d_166_119 : am_code 166 119 = some (.goto (-68), 3) := by decide +kernel
theorem s_166_119 (cl : am_C) (ls : am_Ls) (st : List am_V) (h : am_H) : am_go0 cl 166 119 ls st h = am_go0 cl 166 51 ls st h := am_rGo am_m166 d_166_119 (by decide) _ _ _
theorem d_166_122 : am_code 166 122 = some (.iinc 3 1, 3) := by decide +kernel
theorem s_166_122 (cl : am_C) (a0 a1 a2 a4 : Option am_V) (x : Int) (st : List am_V) (h : am_H) : am_go0 cl 166 122 [a0, a1, a2, some (.inl x), a4] st h = am_go0 cl 166 125 [a0, a1, am_c1 a2, some (.inl (am_wr (x + 1))), a4] st h := am_r am_m166 d_166_122 rfl
theorem d_166_125 : am_code 166 125 = some (.goto (-85), 3) := by decide +kernel
theorem s_166_125 (cl : am_C) (ls : am_Ls) (st : List am_V) (h : am_H) : am_go0 cl 166 125 ls st h = am_go0 cl 166 40 ls st h := am_rGo am_m166 d_166_125 (by decide) _ _ _
theorem d_166_128 : am_code 166 128 = some (.goto (-96), 3) := by decide +kernel
theorem s_166_128 (cl : am_C) (ls : am_Ls) (st : List am_V) (h : am_H) : am_go0 cl 166 128 ls st h = am_go0 cl 166 32 ls st h := am_rGo am_m166 d_166_128 (by decide) _ _ _
theorem d_166_131 : am_code 166 131 = some (.iconst 0, 1) := by decide +kernel
theorem s_166_131 (cl : am_C) (ls : am_Ls) (st : List am_V) (h : am_H) : am_go0 cl 166 131 ls st h = am_go0 cl 166 132 ls (.inl 0 :: st) h := am_rK am_m166 d_166_131 (by decide) rfl _ _ _
theorem d_166_132 : am_code 166 132 = some (.istore_n 3, 1) := by decide +kernel
theorem s_166_132 (cl : am_C) (a0 a1 a2 a3 a4 : Option am_V) (x : Int) (st : List am_V) (h : am_H) : am_go0 cl 166 132 [a0, a1, a2, a3, a4] (.inl x :: st) h = am_go0 cl 166 133 [a0, a1, am_c1 a2, some (.inl x), a4] st h := am_r am_m166 d_166_132 rfl
theorem d_166_133 : am_code 166 133 = some (.iconst 0, 1) := by decide +kernel
theorem s_166_133 (cl : am_C) (ls : am_Ls) (st : List am_V) (h : am_H) : am_go0 cl 166 133 ls st h = am_go0 cl 166 134 ls (.inl 0 :: st) h := am_rK am_m166 d_166_133 (by decide) rfl _ _ _
theorem d_166_134 : am_code 166 134 = some (.istore 4, 2) := by decide +kernel
theorem s_166_134 (cl : am_C) (a0 a1 a2 a3 a4 : Option am_V) (x : Int) (st : List am_V) (h : am_H) : am_go0 cl 166 134 [a0, a1, a2, a3, a4] (.inl x :: st) h = am_go0 cl 166 136 [a0, a1, a2, am_c1 a3, some (.inl x)] st h := am_r am_m166 d_166_134 rfl
theorem d_166_136 : am_code 166 136 = some (.iload 4, 2) := by decide +kernel
theorem s_166_136 (cl : am_C) (a0 a1 a2 a3 : Option am_V) (x : Int) (st : List am_V) (h : am_H) : am_go0 cl 166 136 [a0, a1, a2, a3, some (.inl x)] st h = am_go0 cl 166 138 [a0, a1, a2, a3, some (.inl x)] (.inl x :: st) h := am_r am_m166 d_166_136 rfl
theorem d_166_138 : am_code 166 138 = some (.aload_n 0, 1) := by decide +kernel
theorem s_166_138 (cl : am_C) (a1 a2 a3 a4 : Option am_V) (x : Nat) (st : List am_V) (h : am_H) : am_go0 cl 166 138 [some (.inr (.inr (some x))), a1, a2, a3, a4] st h = am_go0 cl 166 139 [some (.inr (.inr (some x))), a1, a2, a3, a4] (.inr (.inr (some x)) :: st) h := am_r am_m166 d_166_138 rfl
theorem d_166_139 : am_code 166 139 = some (.getfield 172, 3) := by decide +kernel
theorem s_166_139 (cl : am_C) (ls : am_Ls) (st : List am_V) (N : Nat) (I : Nat → Int → Int) (L : Nat → Int → Int64) : am_go0 cl 166 139 ls (.inr (.inr (some 53)) :: st) (am_GS N, am_GR, I, L) = am_go0 cl 166 142 ls (.inl (I 53 28) :: st) (am_GS N, am_GR, I, L) := am_rG0 am_m166 d_166_139 am_f9172 rfl (gs_53 N) (by decide) rfl
theorem d_166_142 : am_code 166 142 = some (.if_icmp .ge 27, 3) := by decide +kernel
theorem s_166_142 (cl : am_C) (ls : am_Ls) (x y : Int) (st : List am_V) (h : am_H) : am_go0 cl 166 142 ls (.inl y :: .inl x :: st) h = if x < y then am_go0 cl 166 145 ls st h else am_go0 cl 166 169 ls st h := (am_rJ0 am_m166 d_166_142 (by decide) rfl x y ls st h).trans (am_ifF ((am_cmp_ge x y).trans Int.not_lt.symm) _ _)
theorem d_166_145 : am_code 166 145 = some (.iload_n 3, 1) := by decide +kernel
theorem s_166_145 (cl : am_C) (a0 a1 a2 a4 : Option am_V) (x : Int) (st : List am_V) (h : am_H) : am_go0 cl 166 145 [a0, a1, a2, some (.inl x), a4] st h = am_go0 cl 166 146 [a0, a1, a2, some (.inl x), a4] (.inl x :: st) h := am_r am_m166 d_166_145 rfl
theorem d_166_146 : am_code 166 146 = some (.aload_n 0, 1) := by decide +kernel
theorem s_166_146 (cl : am_C) (a1 a2 a3 a4 : Option am_V) (x : Nat) (st : List am_V) (h : am_H) : am_go0 cl 166 146 [some (.inr (.inr (some x))), a1, a2, a3, a4] st h = am_go0 cl 166 147 [some (.inr (.inr (some x))), a1, a2, a3, a4] (.inr (.inr (some x)) :: st) h := am_r am_m166 d_166_146 rfl
theorem d_166_147 : am_code 166 147 = some (.getfield 121, 3) := by decide +kernel
theorem s_166_147 (cl : am_C) (ls : am_Ls) (st : List am_V) (N : Nat) (I : Nat → Int → Int) (L : Nat → Int → Int64) : am_go0 cl 166 147 ls (.inr (.inr (some 53)) :: st) (am_GS N, am_GR, I, L) = am_go0 cl 166 150 ls (.inr (.inr (some 87)) :: st) (am_GS N, am_GR, I, L) := am_rG2 am_m166 d_166_147 am_f9121 rfl (gs_53 N) (by decide) gr_53_41 rfl
theorem d_166_150 : am_code 166 150 = some (.iload 4, 2) := by decide +kernel
theorem s_166_150 (cl : am_C) (a0 a1 a2 a3 : Option am_V) (x : Int) (st : List am_V) (h : am_H) : am_go0 cl 166 150 [a0, a1, a2, a3, some (.inl x)] st h = am_go0 cl 166 152 [a0, a1, a2, a3, some (.inl x)] (.inl x :: st) h := am_r am_m166 d_166_150 rfl
theorem d_166_152 : am_code 166 152 = some (.baload, 1) := by decide +kernel
theorem s_166_152 (cl : am_C) (ls : am_Ls) (i : Int) (k : Nat) (st : List am_V) (N : Nat) (I : Nat → Int → Int) (L : Nat → Int → Int64) : am_go0 cl 166 152 ls (.inl i :: .inr (.inr (some k)) :: st) (am_GS N, am_GR, I, L) = if am_inb (am_GS N) k 2 i = true then am_go0 cl 166 153 ls (.inl (I k i) :: st) (am_GS N, am_GR, I, L) else none := am_rAb am_m166 d_166_152 rfl k ls st i _ _ I L
theorem d_166_153 : am_code 166 153 = some (.ifCond .eq 7, 3) := by decide +kernel
theorem s_166_153 (cl : am_C) (ls : am_Ls) (x : Int) (st : List am_V) (h : am_H) : am_go0 cl 166 153 ls (.inl x :: st) h = if x = 0 then am_go0 cl 166 160 ls st h else am_go0 cl 166 156 ls st h := (am_rJ1 am_m166 d_166_153 (by decide) rfl x ls st h).trans (am_ifT (am_cmp_eq x 0) _ _)
theorem d_166_156 : am_code 166 156 = some (.iconst 1, 1) := by decide +kernel
theorem s_166_156 (cl : am_C) (ls : am_Ls) (st : List am_V) (h : am_H) : am_go0 cl 166 156 ls st h = am_go0 cl 166 157 ls (.inl 1 :: st) h := am_rK am_m166 d_166_156 (by decide) rfl _ _ _
theorem d_166_157 : am_code 166 157 = some (.goto 4, 3) := by decide +kernel
theorem s_166_157 (cl : am_C) (ls : am_Ls) (st : List am_V) (h : am_H) : am_go0 cl 166 157 ls st h = am_go0 cl 166 161 ls st h := am_rGo am_m166 d_166_157 (by decide) _ _ _
theorem d_166_160 : am_code 166 160 = some (.iconst 0, 1) := by decide +kernel
theorem s_166_160 (cl : am_C) (ls : am_Ls) (st : List am_V) (h : am_H) : am_go0 cl 166 160 ls st h = am_go0 cl 166 161 ls (.inl 0 :: st) h := am_rK am_m166 d_166_160 (by decide) rfl _ _ _
theorem d_166_161 : am_code 166 161 = some (.iadd, 1) := by decide +kernel
theorem s_166_161 (cl : am_C) (ls : am_Ls) (x y : Int) (st : List am_V) (h : am_H) : am_go0 cl 166 161 ls (.inl y :: .inl x :: st) h = am_go0 cl 166 162 ls (.inl (am_wr (x + y)) :: st) h := am_r am_m166 d_166_161 rfl
theorem d_166_162 : am_code 166 162 = some (.istore_n 3, 1) := by decide +kernel
theorem s_166_162 (cl : am_C) (a0 a1 a2 a3 a4 : Option am_V) (x : Int) (st : List am_V) (h : am_H) : am_go0 cl 166 162 [a0, a1, a2, a3, a4] (.inl x :: st) h = am_go0 cl 166 163 [a0, a1, am_c1 a2, some (.inl x), a4] st h := am_r am_m166 d_166_162 rfl
theorem d_166_163 : am_code 166 163 = some (.iinc 4 1, 3) := by decide +kernel
theorem s_166_163 (cl : am_C) (a0 a1 a2 a3 : Option am_V) (x : Int) (st : List am_V) (h : am_H) : am_go0 cl 166 163 [a0, a1, a2, a3, some (.inl x)] st h = am_go0 cl 166 166 [a0, a1, a2, am_c1 a3, some (.inl (am_wr (x + 1)))] st h := am_r am_m166 d_166_163 rfl
theorem d_166_166 : am_code 166 166 = some (.goto (-30), 3) := by decide +kernel
theorem s_166_166 (cl : am_C) (ls : am_Ls) (st : List am_V) (h : am_H) : am_go0 cl 166 166 ls st h = am_go0 cl 166 136 ls st h := am_rGo am_m166 d_166_166 (by decide) _ _ _
theorem d_166_169 : am_code 166 169 = some (.iload_n 3, 1) := by decide +kernel
theorem s_166_169 (cl : am_C) (a0 a1 a2 a4 : Option am_V) (x : Int) (st : List am_V) (h : am_H) : am_go0 cl 166 169 [a0, a1, a2, some (.inl x), a4] st h = am_go0 cl 166 170 [a0, a1, a2, some (.inl x), a4] (.inl x :: st) h := am_r am_m166 d_166_169 rfl
theorem d_166_170 : am_code 166 170 = some (.ireturn, 1) := by decide +kernel
theorem s_166_170 (cl : am_C) (ls : am_Ls) (x : Int) (h : am_H) : am_go0 cl 166 170 ls [.inl x] h = some (some (.inl x), h) := am_rE am_m166 d_166_170 rfl
theorem e_166 (d : Nat) (t : Nat) (p0 : Int) (h : am_H) : am_call (d + 1) 166 [.inr (.inr (some t)), .inl p0] h = am_go0 (am_call d) 166 0 [some (.inr (.inr (some t))), some (.inl p0), none, none, none] [] h := am_callE am_m166 (Nat.le_of_ble_eq_true rfl) rfl
theorem d_167_0 : am_code 167 0 = some (.aload_n 0, 1) := by decide +kernel
theorem s_167_0 (cl : am_C) (a1 a2 a3 : Option am_V) (x : Nat) (st : List am_V) (h : am_H) : am_go0 cl 167 0 [some (.inr (.inr (some x))), a1, a2, a3] st h = am_go0 cl 167 1 [some (.inr (.inr (some x))), a1, a2, a3] (.inr (.inr (some x)) :: st) h := am_r am_m167 d_167_0 rfl
theorem d_167_1 : am_code 167 1 = some (.iconst 0, 1) := by decide +kernel
theorem s_167_1 (cl : am_C) (ls : am_Ls) (st : List am_V) (h : am_H) : am_go0 cl 167 1 ls st h = am_go0 cl 167 2 ls (.inl 0 :: st) h := am_rK am_m167 d_167_1 (by decide) rfl _ _ _
theorem d_167_2 : am_code 167 2 = some (.putfield 266, 3) := by decide +kernel
theorem s_167_2 (cl : am_C) (ls : am_Ls) (v : Int) (st : List am_V) (N : Nat) (I : Nat → Int → Int) (L : Nat → Int → Int64) : am_go0 cl 167 2 ls (.inl v :: .inr (.inr (some 53)) :: st) (am_GS N, am_GR, I, L) = am_go0 cl 167 5 ls st (am_GS N, am_GR, am_uI I 53 53 v, L) := am_rP0 am_m167 d_167_2 am_f9266 rfl (gs_53 N) (by decide) rfl
theorem d_167_5 : am_code 167 5 = some (.aload_n 0, 1) := by decide +kernel
theorem s_167_5 (cl : am_C) (a1 a2 a3 : Option am_V) (x : Nat) (st : List am_V) (h : am_H) : am_go0 cl 167 5 [some (.inr (.inr (some x))), a1, a2, a3] st h = am_go0 cl 167 6 [some (.inr (.inr (some x))), a1, a2, a3] (.inr (.inr (some x)) :: st) h := am_r am_m167 d_167_5 rfl
theorem d_167_6 : am_code 167 6 = some (.iconst (-1), 1) := by decide +kernel
theorem s_167_6 (cl : am_C) (ls : am_Ls) (st : List am_V) (h : am_H) : am_go0 cl 167 6 ls st h = am_go0 cl 167 7 ls (.inl (-1) :: st) h := am_rK am_m167 d_167_6 (by decide) rfl _ _ _
theorem d_167_7 : am_code 167 7 = some (.putfield 139, 3) := by decide +kernel
theorem s_167_7 (cl : am_C) (ls : am_Ls) (v : Int) (st : List am_V) (N : Nat) (I : Nat → Int → Int) (L : Nat → Int → Int64) : am_go0 cl 167 7 ls (.inl v :: .inr (.inr (some 53)) :: st) (am_GS N, am_GR, I, L) = am_go0 cl 167 10 ls st (am_GS N, am_GR, am_uI I 53 51 v, L) := am_rP0 am_m167 d_167_7 am_f9139 rfl (gs_53 N) (by decide) rfl
theorem d_167_10 : am_code 167 10 = some (.aload_n 0, 1) := by decide +kernel
theorem s_167_10 (cl : am_C) (a1 a2 a3 : Option am_V) (x : Nat) (st : List am_V) (h : am_H) : am_go0 cl 167 10 [some (.inr (.inr (some x))), a1, a2, a3] st h = am_go0 cl 167 11 [some (.inr (.inr (some x))), a1, a2, a3] (.inr (.inr (some x)) :: st) h := am_r am_m167 d_167_10 rfl
theorem d_167_11 : am_code 167 11 = some (.iconst (-1), 1) := by decide +kernel
theorem s_167_11 (cl : am_C) (ls : am_Ls) (st : List am_V) (h : am_H) : am_go0 cl 167 11 ls st h = am_go0 cl 167 12 ls (.inl (-1) :: st) h := am_rK am_m167 d_167_11 (by decide) rfl _ _ _
theorem d_167_12 : am_code 167 12 = some (.putfield 142, 3) := by decide +kernel
theorem s_167_12 (cl : am_C) (ls : am_Ls) (v : Int) (st : List am_V) (N : Nat) (I : Nat → Int → Int) (L : Nat → Int → Int64) : am_go0 cl 167 12 ls (.inl v :: .inr (.inr (some 53)) :: st) (am_GS N, am_GR, I, L) = am_go0 cl 167 15 ls st (am_GS N, am_GR, am_uI I 53 52 v, L) := am_rP0 am_m167 d_167_12 am_f9142 rfl (gs_53 N) (by decide) rfl
theorem d_167_15 : am_code 167 15 = some (.aload_n 0, 1) := by decide +kernel
theorem s_167_15 (cl : am_C) (a1 a2 a3 : Option am_V) (x : Nat) (st : List am_V) (h : am_H) : am_go0 cl 167 15 [some (.inr (.inr (some x))), a1, a2, a3] st h = am_go0 cl 167 16 [some (.inr (.inr (some x))), a1, a2, a3] (.inr (.inr (some x)) :: st) h := am_r am_m167 d_167_15 rfl
theorem d_167_16 : am_code 167 16 = some (.iload_n 1, 1) := by decide +kernel
theorem s_167_16 (cl : am_C) (a0 a2 a3 : Option am_V) (x : Int) (st : List am_V) (h : am_H) : am_go0 cl 167 16 [a0, some (.inl x), a2, a3] st h = am_go0 cl 167 17 [a0, some (.inl x), a2, a3] (.inl x :: st) h := am_r am_m167 d_167_16 rfl
theorem d_167_17 : am_code 167 17 = some (.invokevirtual 223, 3) := by decide +kernel
theorem s_167_17 (cl : am_C) (ls : am_Ls) (x0 : Int) (N : Nat) (I : Nat → Int → Int) (L : Nat → Int → Int64) : am_go0 cl 167 17 ls [.inl x0, .inr (.inr (some 53))] (am_GS N, am_GR, I, L) = am_bd (cl 164 [.inr (.inr (some 53)), .inl x0] (am_GS N, am_GR, I, L)) (fun v h2 => am_go0 cl 167 20 ls (v.toList ++ []) h2) := am_rV am_m167 d_167_17 am_k9223 rfl am_m164 (gs_53 N) (by decide) (Nat.le_of_ble_eq_true rfl) rfl ls
theorem d_167_20 : am_code 167 20 = some (.ifCond .eq 24, 3) := by decide +kernel
theorem s_167_20 (cl : am_C) (ls : am_Ls) (x : Int) (st : List am_V) (h : am_H) : am_go0 cl 167 20 ls (.inl x :: st) h = if x = 0 then am_go0 cl 167 44 ls st h else am_go0 cl 167 23 ls st h := (am_rJ1 am_m167 d_167_20 (by decide) rfl x ls st h).trans (am_ifT (am_cmp_eq x 0) _ _)
theorem d_167_23 : am_code 167 23 = some (.iload_n 2, 1) := by decide +kernel
theorem s_167_23 (cl : am_C) (a0 a1 a3 : Option am_V) (x : Int) (st : List am_V) (h : am_H) : am_go0 cl 167 23 [a0, a1, some (.inl x), a3] st h = am_go0 cl 167 24 [a0, a1, some (.inl x), a3] (.inl x :: st) h := am_r am_m167 d_167_23 rfl
theorem d_167_24 : am_code 167 24 = some (.iconst 0, 1) := by decide +kernel
theorem s_167_24 (cl : am_C) (ls : am_Ls) (st : List am_V) (h : am_H) : am_go0 cl 167 24 ls st h = am_go0 cl 167 25 ls (.inl 0 :: st) h := am_rK am_m167 d_167_24 (by decide) rfl _ _ _
theorem d_167_25 : am_code 167 25 = some (.aload_n 0, 1) := by decide +kernel
theorem s_167_25 (cl : am_C) (a1 a2 a3 : Option am_V) (x : Nat) (st : List am_V) (h : am_H) : am_go0 cl 167 25 [some (.inr (.inr (some x))), a1, a2, a3] st h = am_go0 cl 167 26 [some (.inr (.inr (some x))), a1, a2, a3] (.inr (.inr (some x)) :: st) h := am_r am_m167 d_167_25 rfl
theorem d_167_26 : am_code 167 26 = some (.getfield 35, 3) := by decide +kernel
theorem s_167_26 (cl : am_C) (ls : am_Ls) (st : List am_V) (N : Nat) (I : Nat → Int → Int) (L : Nat → Int → Int64) : am_go0 cl 167 26 ls (.inr (.inr (some 53)) :: st) (am_GS N, am_GR, I, L) = am_go0 cl 167 29 ls (.inr (.inr (some 61)) :: st) (am_GS N, am_GR, I, L) := am_rG2 am_m167 d_167_26 am_f9035 rfl (gs_53 N) (by decide) gr_53_10 rfl
theorem d_167_29 : am_code 167 29 = some (.aload_n 0, 1) := by decide +kernel
theorem s_167_29 (cl : am_C) (a1 a2 a3 : Option am_V) (x : Nat) (st : List am_V) (h : am_H) : am_go0 cl 167 29 [some (.inr (.inr (some x))), a1, a2, a3] st h = am_go0 cl 167 30 [some (.inr (.inr (some x))), a1, a2, a3] (.inr (.inr (some x)) :: st) h := am_r am_m167 d_167_29 rfl
theorem d_167_30 : am_code 167 30 = some (.getfield 84, 3) := by decide +kernel
theorem s_167_30 (cl : am_C) (ls : am_Ls) (st : List am_V) (N : Nat) (I : Nat → Int → Int) (L : Nat → Int → Int64) : am_go0 cl 167 30 ls (.inr (.inr (some 53)) :: st) (am_GS N, am_GR, I, L) = am_go0 cl 167 33 ls (.inr (.inr (some 77)) :: st) (am_GS N, am_GR, I, L) := am_rG2 am_m167 d_167_30 am_f9084 rfl (gs_53 N) (by decide) gr_53_29 rfl
theorem d_167_33 : am_code 167 33 = some (.iload_n 1, 1) := by decide +kernel
theorem s_167_33 (cl : am_C) (a0 a2 a3 : Option am_V) (x : Int) (st : List am_V) (h : am_H) : am_go0 cl 167 33 [a0, some (.inl x), a2, a3] st h = am_go0 cl 167 34 [a0, some (.inl x), a2, a3] (.inl x :: st) h := am_r am_m167 d_167_33 rfl
theorem d_167_34 : am_code 167 34 = some (.iaload, 1) := by decide +kernel
theorem s_167_34 (cl : am_C) (ls : am_Ls) (i : Int) (k : Nat) (st : List am_V) (N : Nat) (I : Nat → Int → Int) (L : Nat → Int → Int64) : am_go0 cl 167 34 ls (.inl i :: .inr (.inr (some k)) :: st) (am_GS N, am_GR, I, L) = if am_inb (am_GS N) k 0 i = true then am_go0 cl 167 35 ls (.inl (I k i) :: st) (am_GS N, am_GR, I, L) else none := am_rA am_m167 d_167_34 (by decide) rfl k ls st i _ _ I L
theorem d_167_35 : am_code 167 35 = some (.iaload, 1) := by decide +kernel
theorem s_167_35 (cl : am_C) (ls : am_Ls) (i : Int) (k : Nat) (st : List am_V) (N : Nat) (I : Nat → Int → Int) (L : Nat → Int → Int64) : am_go0 cl 167 35 ls (.inl i :: .inr (.inr (some k)) :: st) (am_GS N, am_GR, I, L) = if am_inb (am_GS N) k 0 i = true then am_go0 cl 167 36 ls (.inl (I k i) :: st) (am_GS N, am_GR, I, L) else none := am_rA am_m167 d_167_35 (by decide) rfl k ls st i _ _ I L
theorem d_167_36 : am_code 167 36 = some (.iconst 1, 1) := by decide +kernel
theorem s_167_36 (cl : am_C) (ls : am_Ls) (st : List am_V) (h : am_H) : am_go0 cl 167 36 ls st h = am_go0 cl 167 37 ls (.inl 1 :: st) h := am_rK am_m167 d_167_36 (by decide) rfl _ _ _
theorem d_167_37 : am_code 167 37 = some (.isub, 1) := by decide +kernel
theorem s_167_37 (cl : am_C) (ls : am_Ls) (x y : Int) (st : List am_V) (h : am_H) : am_go0 cl 167 37 ls (.inl y :: .inl x :: st) h = am_go0 cl 167 38 ls (.inl (am_wr (x - y)) :: st) h := am_r am_m167 d_167_37 rfl
theorem d_167_38 : am_code 167 38 = some (.invokestatic 151, 3) := by decide +kernel
theorem s_167_38 (cl : am_C) (ls : am_Ls) (x0 : Int) (x1 : Int) (x2 : Int) (h : am_H) : am_go0 cl 167 38 ls [.inl x2, .inl x1, .inl x0] h = am_bd (cl 135 [.inl x0, .inl x1, .inl x2] h) (fun v h2 => am_go0 cl 167 41 ls (v.toList ++ []) h2) := am_rVs am_m167 d_167_38 am_k9151 rfl (Nat.le_of_ble_eq_true rfl) rfl ls
theorem d_167_41 : am_code 167 41 = some (.ifCond .ne 11, 3) := by decide +kernel
theorem s_167_41 (cl : am_C) (ls : am_Ls) (x : Int) (st : List am_V) (h : am_H) : am_go0 cl 167 41 ls (.inl x :: st) h = if x = 0 then am_go0 cl 167 44 ls st h else am_go0 cl 167 52 ls st h := (am_rJ1 am_m167 d_167_41 (by decide) rfl x ls st h).trans (am_ifF ((am_cmp_ne x 0).trans Iff.rfl) _ _)
theorem d_167_44 : am_code 167 44 = some (.aload_n 0, 1) := by decide +kernel
theorem s_167_44 (cl : am_C) (a1 a2 a3 : Option am_V) (x : Nat) (st : List am_V) (h : am_H) : am_go0 cl 167 44 [some (.inr (.inr (some x))), a1, a2, a3] st h = am_go0 cl 167 45 [some (.inr (.inr (some x))), a1, a2, a3] (.inr (.inr (some x)) :: st) h := am_r am_m167 d_167_44 rfl
theorem d_167_45 : am_code 167 45 = some (.bipush (-2), 2) := by decide +kernel
theorem s_167_45 (cl : am_C) (ls : am_Ls) (st : List am_V) (h : am_H) : am_go0 cl 167 45 ls st h = am_go0 cl 167 47 ls (.inl (-2) :: st) h := am_rB am_m167 d_167_45 (by decide) rfl _ _ _
theorem d_167_47 : am_code 167 47 = some (.putfield 235, 3) := by decide +kernel
theorem s_167_47 (cl : am_C) (ls : am_Ls) (v : Int) (st : List am_V) (N : Nat) (I : Nat → Int → Int) (L : Nat → Int → Int64) : am_go0 cl 167 47 ls (.inl v :: .inr (.inr (some 53)) :: st) (am_GS N, am_GR, I, L) = am_go0 cl 167 50 ls st (am_GS N, am_GR, am_uI I 53 50 v, L) := am_rP0 am_m167 d_167_47 am_f9235 rfl (gs_53 N) (by decide) rfl
theorem d_167_50 : am_code 167 50 = some (.lconst 0, 1) := by decide +kernel
theorem s_167_50 (cl : am_C) (ls : am_Ls) (st : List am_V) (h : am_H) : am_go0 cl 167 50 ls st h = am_go0 cl 167 51 ls (.inr (.inl 0) :: st) h := am_r am_m167 d_167_50 rfl
theorem d_167_51 : am_code 167 51 = some (.lreturn, 1) := by decide +kernel
theorem s_167_51 (cl : am_C) (ls : am_Ls) (x : Int64) (h : am_H) : am_go0 cl 167 51 ls [.inr (.inl x)] h = some (some (.inr (.inl x)), h) := am_rE am_m167 d_167_51 rfl
theorem d_167_52 : am_code 167 52 = some (.aload_n 0, 1) := by decide +kernel
theorem s_167_52 (cl : am_C) (a1 a2 a3 : Option am_V) (x : Nat) (st : List am_V) (h : am_H) : am_go0 cl 167 52 [some (.inr (.inr (some x))), a1, a2, a3] st h = am_go0 cl 167 53 [some (.inr (.inr (some x))), a1, a2, a3] (.inr (.inr (some x)) :: st) h := am_r am_m167 d_167_52 rfl
theorem d_167_53 : am_code 167 53 = some (.iconst 0, 1) := by decide +kernel
theorem s_167_53 (cl : am_C) (ls : am_Ls) (st : List am_V) (h : am_H) : am_go0 cl 167 53 ls st h = am_go0 cl 167 54 ls (.inl 0 :: st) h := am_rK am_m167 d_167_53 (by decide) rfl _ _ _
theorem d_167_54 : am_code 167 54 = some (.putfield 235, 3) := by decide +kernel
theorem s_167_54 (cl : am_C) (ls : am_Ls) (v : Int) (st : List am_V) (N : Nat) (I : Nat → Int → Int) (L : Nat → Int → Int64) : am_go0 cl 167 54 ls (.inl v :: .inr (.inr (some 53)) :: st) (am_GS N, am_GR, I, L) = am_go0 cl 167 57 ls st (am_GS N, am_GR, am_uI I 53 50 v, L) := am_rP0 am_m167 d_167_54 am_f9235 rfl (gs_53 N) (by decide) rfl
theorem d_167_57 : am_code 167 57 = some (.aload_n 0, 1) := by decide +kernel
theorem s_167_57 (cl : am_C) (a1 a2 a3 : Option am_V) (x : Nat) (st : List am_V) (h : am_H) : am_go0 cl 167 57 [some (.inr (.inr (some x))), a1, a2, a3] st h = am_go0 cl 167 58 [some (.inr (.inr (some x))), a1, a2, a3] (.inr (.inr (some x)) :: st) h := am_r am_m167 d_167_57 rfl
theorem d_167_58 : am_code 167 58 = some (.iconst 0, 1) := by decide +kernel
theorem s_167_58 (cl : am_C) (ls : am_Ls) (st : List am_V) (h : am_H) : am_go0 cl 167 58 ls st h = am_go0 cl 167 59 ls (.inl 0 :: st) h := am_rK am_m167 d_167_58 (by decide) rfl _ _ _
theorem d_167_59 : am_code 167 59 = some (.putfield 229, 3) := by decide +kernel
theorem s_167_59 (cl : am_C) (ls : am_Ls) (v : Int) (st : List am_V) (N : Nat) (I : Nat → Int → Int) (L : Nat → Int → Int64) : am_go0 cl 167 59 ls (.inl v :: .inr (.inr (some 53)) :: st) (am_GS N, am_GR, I, L) = am_go0 cl 167 62 ls st (am_GS N, am_GR, am_uI I 53 43 v, L) := am_rP0 am_m167 d_167_59 am_f9229 rfl (gs_53 N) (by decide) rfl
theorem d_167_62 : am_code 167 62 = some (.aload_n 0, 1) := by decide +kernel
theorem s_167_62 (cl : am_C) (a1 a2 a3 : Option am_V) (x : Nat) (st : List am_V) (h : am_H) : am_go0 cl 167 62 [some (.inr (.inr (some x))), a1, a2, a3] st h = am_go0 cl 167 63 [some (.inr (.inr (some x))), a1, a2, a3] (.inr (.inr (some x)) :: st) h := am_r am_m167 d_167_62 rfl
theorem d_167_63 : am_code 167 63 = some (.iconst 0, 1) := by decide +kernel
theorem s_167_63 (cl : am_C) (ls : am_Ls) (st : List am_V) (h : am_H) : am_go0 cl 167 63 ls st h = am_go0 cl 167 64 ls (.inl 0 :: st) h := am_rK am_m167 d_167_63 (by decide) rfl _ _ _
theorem d_167_64 : am_code 167 64 = some (.putfield 232, 3) := by decide +kernel
theorem s_167_64 (cl : am_C) (ls : am_Ls) (v : Int) (st : List am_V) (N : Nat) (I : Nat → Int → Int) (L : Nat → Int → Int64) : am_go0 cl 167 64 ls (.inl v :: .inr (.inr (some 53)) :: st) (am_GS N, am_GR, I, L) = am_go0 cl 167 67 ls st (am_GS N, am_GR, am_uI I 53 45 v, L) := am_rP0 am_m167 d_167_64 am_f9232 rfl (gs_53 N) (by decide) rfl
theorem d_167_67 : am_code 167 67 = some (.aload_n 0, 1) := by decide +kernel
theorem s_167_67 (cl : am_C) (a1 a2 a3 : Option am_V) (x : Nat) (st : List am_V) (h : am_H) : am_go0 cl 167 67 [some (.inr (.inr (some x))), a1, a2, a3] st h = am_go0 cl 167 68 [some (.inr (.inr (some x))), a1, a2, a3] (.inr (.inr (some x)) :: st) h := am_r am_m167 d_167_67 rfl
theorem d_167_68 : am_code 167 68 = some (.iconst 0, 1) := by decide +kernel
theorem s_167_68 (cl : am_C) (ls : am_Ls) (st : List am_V) (h : am_H) : am_go0 cl 167 68 ls st h = am_go0 cl 167 69 ls (.inl 0 :: st) h := am_rK am_m167 d_167_68 (by decide) rfl _ _ _
theorem d_167_69 : am_code 167 69 = some (.putfield 242, 3) := by decide +kernel
theorem s_167_69 (cl : am_C) (ls : am_Ls) (v : Int) (st : List am_V) (N : Nat) (I : Nat → Int → Int) (L : Nat → Int → Int64) : am_go0 cl 167 69 ls (.inl v :: .inr (.inr (some 53)) :: st) (am_GS N, am_GR, I, L) = am_go0 cl 167 72 ls st (am_GS N, am_GR, am_uI I 53 49 v, L) := am_rP0 am_m167 d_167_69 am_f9242 rfl (gs_53 N) (by decide) rfl
theorem d_167_72 : am_code 167 72 = some (.aload_n 0, 1) := by decide +kernel
theorem s_167_72 (cl : am_C) (a1 a2 a3 : Option am_V) (x : Nat) (st : List am_V) (h : am_H) : am_go0 cl 167 72 [some (.inr (.inr (some x))), a1, a2, a3] st h = am_go0 cl 167 73 [some (.inr (.inr (some x))), a1, a2, a3] (.inr (.inr (some x)) :: st) h := am_r am_m167 d_167_72 rfl
theorem d_167_73 : am_code 167 73 = some (.iload_n 1, 1) := by decide +kernel
theorem s_167_73 (cl : am_C) (a0 a2 a3 : Option am_V) (x : Int) (st : List am_V) (h : am_H) : am_go0 cl 167 73 [a0, some (.inl x), a2, a3] st h = am_go0 cl 167 74 [a0, some (.inl x), a2, a3] (.inl x :: st) h := am_r am_m167 d_167_73 rfl
theorem d_167_74 : am_code 167 74 = some (.iload_n 2, 1) := by decide +kernel
theorem s_167_74 (cl : am_C) (a0 a1 a3 : Option am_V) (x : Int) (st : List am_V) (h : am_H) : am_go0 cl 167 74 [a0, a1, some (.inl x), a3] st h = am_go0 cl 167 75 [a0, a1, some (.inl x), a3] (.inl x :: st) h := am_r am_m167 d_167_74 rfl
theorem d_167_75 : am_code 167 75 = some (.invokevirtual 259, 3) := by decide +kernel
theorem s_167_75 (cl : am_C) (ls : am_Ls) (x0 : Int) (x1 : Int) (N : Nat) (I : Nat → Int → Int) (L : Nat → Int → Int64) : am_go0 cl 167 75 ls [.inl x1, .inl x0, .inr (.inr (some 53))] (am_GS N, am_GR, I, L) = am_bd (cl 168 [.inr (.inr (some 53)), .inl x0, .inl x1] (am_GS N, am_GR, I, L)) (fun v h2 => am_go0 cl 167 78 ls (v.toList ++ []) h2) := am_rV am_m167 d_167_75 am_k9259 rfl am_m168 (gs_53 N) (by decide) (Nat.le_of_ble_eq_true rfl) rfl ls
theorem d_167_78 : am_code 167 78 = some (.aload_n 0, 1) := by decide +kernel
theorem s_167_78 (cl : am_C) (a1 a2 a3 : Option am_V) (x : Nat) (st : List am_V) (h : am_H) : am_go0 cl 167 78 [some (.inr (.inr (some x))), a1, a2, a3] st h = am_go0 cl 167 79 [some (.inr (.inr (some x))), a1, a2, a3] (.inr (.inr (some x)) :: st) h := am_r am_m167 d_167_78 rfl
theorem d_167_79 : am_code 167 79 = some (.getfield 229, 3) := by decide +kernel
theorem s_167_79 (cl : am_C) (ls : am_Ls) (st : List am_V) (N : Nat) (I : Nat → Int → Int) (L : Nat → Int → Int64) : am_go0 cl 167 79 ls (.inr (.inr (some 53)) :: st) (am_GS N, am_GR, I, L) = am_go0 cl 167 82 ls (.inl (I 53 43) :: st) (am_GS N, am_GR, I, L) := am_rG0 am_m167 d_167_79 am_f9229 rfl (gs_53 N) (by decide) rfl
theorem d_167_82 : am_code 167 82 = some (.ifCond .le 130, 3) := by decide +kernel
theorem s_167_82 (cl : am_C) (ls : am_Ls) (x : Int) (st : List am_V) (h : am_H) : am_go0 cl 167 82 ls (.inl x :: st) h = if 0 < x then am_go0 cl 167 85 ls st h else am_go0 cl 167 212 ls st h := (am_rJ1 am_m167 d_167_82 (by decide) rfl x ls st h).trans (am_ifF ((am_cmp_le x 0).trans Int.not_lt.symm) _ _)
theorem d_167_85 : am_code 167 85 = some (.aload_n 0, 1) := by decide +kernel
theorem s_167_85 (cl : am_C) (a1 a2 a3 : Option am_V) (x : Nat) (st : List am_V) (h : am_H) : am_go0 cl 167 85 [some (.inr (.inr (some x))), a1, a2, a3] st h = am_go0 cl 167 86 [some (.inr (.inr (some x))), a1, a2, a3] (.inr (.inr (some x)) :: st) h := am_r am_m167 d_167_85 rfl
theorem d_167_86 : am_code 167 86 = some (.getfield 235, 3) := by decide +kernel
theorem s_167_86 (cl : am_C) (ls : am_Ls) (st : List am_V) (N : Nat) (I : Nat → Int → Int) (L : Nat → Int → Int64) : am_go0 cl 167 86 ls (.inr (.inr (some 53)) :: st) (am_GS N, am_GR, I, L) = am_go0 cl 167 89 ls (.inl (I 53 50) :: st) (am_GS N, am_GR, I, L) := am_rG0 am_m167 d_167_86 am_f9235 rfl (gs_53 N) (by decide) rfl
theorem d_167_89 : am_code 167 89 = some (.ifCond .ne 123, 3) := by decide +kernel
theorem s_167_89 (cl : am_C) (ls : am_Ls) (x : Int) (st : List am_V) (h : am_H) : am_go0 cl 167 89 ls (.inl x :: st) h = if x = 0 then am_go0 cl 167 92 ls st h else am_go0 cl 167 212 ls st h := (am_rJ1 am_m167 d_167_89 (by decide) rfl x ls st h).trans (am_ifF ((am_cmp_ne x 0).trans Iff.rfl) _ _)
theorem d_167_92 : am_code 167 92 = some (.aload_n 0, 1) := by decide +kernel
theorem s_167_92 (cl : am_C) (a1 a2 a3 : Option am_V) (x : Nat) (st : List am_V) (h : am_H) : am_go0 cl 167 92 [some (.inr (.inr (some x))), a1, a2, a3] st h = am_go0 cl 167 93 [some (.inr (.inr (some x))), a1, a2, a3] (.inr (.inr (some x)) :: st) h := am_r am_m167 d_167_92 rfl
theorem d_167_93 : am_code 167 93 = some (.dup, 1) := by decide +kernel
theorem s_167_93 (cl : am_C) (ls : am_Ls) (x : Nat) (st : List am_V) (h : am_H) : am_go0 cl 167 93 ls (.inr (.inr (some x)) :: st) h = am_go0 cl 167 94 ls (.inr (.inr (some x)) :: .inr (.inr (some x)) :: st) h := am_r am_m167 d_167_93 rfl
theorem d_167_94 : am_code 167 94 = some (.getfield 229, 3) := by decide +kernel
theorem s_167_94 (cl : am_C) (ls : am_Ls) (st : List am_V) (N : Nat) (I : Nat → Int → Int) (L : Nat → Int → Int64) : am_go0 cl 167 94 ls (.inr (.inr (some 53)) :: st) (am_GS N, am_GR, I, L) = am_go0 cl 167 97 ls (.inl (I 53 43) :: st) (am_GS N, am_GR, I, L) := am_rG0 am_m167 d_167_94 am_f9229 rfl (gs_53 N) (by decide) rfl
theorem d_167_97 : am_code 167 97 = some (.iconst 1, 1) := by decide +kernel
theorem s_167_97 (cl : am_C) (ls : am_Ls) (st : List am_V) (h : am_H) : am_go0 cl 167 97 ls st h = am_go0 cl 167 98 ls (.inl 1 :: st) h := am_rK am_m167 d_167_97 (by decide) rfl _ _ _
theorem d_167_98 : am_code 167 98 = some (.isub, 1) := by decide +kernel
theorem s_167_98 (cl : am_C) (ls : am_Ls) (x y : Int) (st : List am_V) (h : am_H) : am_go0 cl 167 98 ls (.inl y :: .inl x :: st) h = am_go0 cl 167 99 ls (.inl (am_wr (x - y)) :: st) h := am_r am_m167 d_167_98 rfl
theorem d_167_99 : am_code 167 99 = some (.putfield 229, 3) := by decide +kernel
theorem s_167_99 (cl : am_C) (ls : am_Ls) (v : Int) (st : List am_V) (N : Nat) (I : Nat → Int → Int) (L : Nat → Int → Int64) : am_go0 cl 167 99 ls (.inl v :: .inr (.inr (some 53)) :: st) (am_GS N, am_GR, I, L) = am_go0 cl 167 102 ls st (am_GS N, am_GR, am_uI I 53 43 v, L) := am_rP0 am_m167 d_167_99 am_f9229 rfl (gs_53 N) (by decide) rfl
theorem d_167_102 : am_code 167 102 = some (.aload_n 0, 1) := by decide +kernel
theorem s_167_102 (cl : am_C) (a1 a2 a3 : Option am_V) (x : Nat) (st : List am_V) (h : am_H) : am_go0 cl 167 102 [some (.inr (.inr (some x))), a1, a2, a3] st h = am_go0 cl 167 103 [some (.inr (.inr (some x))), a1, a2, a3] (.inr (.inr (some x)) :: st) h := am_r am_m167 d_167_102 rfl
theorem d_167_103 : am_code 167 103 = some (.getfield 124, 3) := by decide +kernel
theorem s_167_103 (cl : am_C) (ls : am_Ls) (st : List am_V) (N : Nat) (I : Nat → Int → Int) (L : Nat → Int → Int64) : am_go0 cl 167 103 ls (.inr (.inr (some 53)) :: st) (am_GS N, am_GR, I, L) = am_go0 cl 167 106 ls (.inr (.inr (some 88)) :: st) (am_GS N, am_GR, I, L) := am_rG2 am_m167 d_167_103 am_f9124 rfl (gs_53 N) (by decide) gr_53_42 rfl
theorem d_167_106 : am_code 167 106 = some (.aload_n 0, 1) := by decide +kernel
theorem s_167_106 (cl : am_C) (a1 a2 a3 : Option am_V) (x : Nat) (st : List am_V) (h : am_H) : am_go0 cl 167 106 [some (.inr (.inr (some x))), a1, a2, a3] st h = am_go0 cl 167 107 [some (.inr (.inr (some x))), a1, a2, a3] (.inr (.inr (some x)) :: st) h := am_r am_m167 d_167_106 rfl
theorem d_167_107 : am_code 167 107 = some (.getfield 229, 3) := by decide +kernel
theorem s_167_107 (cl : am_C) (ls : am_Ls) (st : List am_V) (N : Nat) (I : Nat → Int → Int) (L : Nat → Int → Int64) : am_go0 cl 167 107 ls (.inr (.inr (some 53)) :: st) (am_GS N, am_GR, I, L) = am_go0 cl 167 110 ls (.inl (I 53 43) :: st) (am_GS N, am_GR, I, L) := am_rG0 am_m167 d_167_107 am_f9229 rfl (gs_53 N) (by decide) rfl
theorem d_167_110 : am_code 167 110 = some (.iaload, 1) := by decide +kernel
theorem s_167_110 (cl : am_C) (ls : am_Ls) (i : Int) (k : Nat) (st : List am_V) (N : Nat) (I : Nat → Int → Int) (L : Nat → Int → Int64) : am_go0 cl 167 110 ls (.inl i :: .inr (.inr (some k)) :: st) (am_GS N, am_GR, I, L) = if am_inb (am_GS N) k 0 i = true then am_go0 cl 167 111 ls (.inl (I k i) :: st) (am_GS N, am_GR, I, L) else none := am_rA am_m167 d_167_110 (by decide) rfl k ls st i _ _ I L
theorem d_167_111 : am_code 167 111 = some (.istore_n 3, 1) := by decide +kernel
theorem s_167_111 (cl : am_C) (a0 a1 a2 a3 : Option am_V) (x : Int) (st : List am_V) (h : am_H) : am_go0 cl 167 111 [a0, a1, a2, a3] (.inl x :: st) h = am_go0 cl 167 112 [a0, a1, am_c1 a2, some (.inl x)] st h := am_r am_m167 d_167_111 rfl
theorem d_167_112 : am_code 167 112 = some (.iload_n 3, 1) := by decide +kernel
theorem s_167_112 (cl : am_C) (a0 a1 a2 : Option am_V) (x : Int) (st : List am_V) (h : am_H) : am_go0 cl 167 112 [a0, a1, a2, some (.inl x)] st h = am_go0 cl 167 113 [a0, a1, a2, some (.inl x)] (.inl x :: st) h := am_r am_m167 d_167_112 rfl
theorem d_167_113 : am_code 167 113 = some (.sipush 300, 3) := by decide +kernel
theorem s_167_113 (cl : am_C) (ls : am_Ls) (st : List am_V) (h : am_H) : am_go0 cl 167 113 ls st h = am_go0 cl 167 116 ls (.inl 300 :: st) h := am_rBs am_m167 d_167_113 (by decide) rfl _ _ _
theorem d_167_116 : am_code 167 116 = some (.if_icmp .ne 10, 3) := by decide +kernel
theorem s_167_116 (cl : am_C) (ls : am_Ls) (x y : Int) (st : List am_V) (h : am_H) : am_go0 cl 167 116 ls (.inl y :: .inl x :: st) h = if x = y then am_go0 cl 167 119 ls st h else am_go0 cl 167 126 ls st h := (am_rJ0 am_m167 d_167_116 (by decide) rfl x y ls st h).trans (am_ifF ((am_cmp_ne x y).trans Iff.rfl) _ _)
theorem d_167_119 : am_code 167 119 = some (.aload_n 0, 1) := by decide +kernel
theorem s_167_119 (cl : am_C) (a1 a2 a3 : Option am_V) (x : Nat) (st : List am_V) (h : am_H) : am_go0 cl 167 119 [some (.inr (.inr (some x))), a1, a2, a3] st h = am_go0 cl 167 120 [some (.inr (.inr (some x))), a1, a2, a3] (.inr (.inr (some x)) :: st) h := am_r am_m167 d_167_119 rfl
theorem d_167_120 : am_code 167 120 = some (.invokevirtual 269, 3) := by decide +kernel
theorem s_167_120 (cl : am_C) (ls : am_Ls) (N : Nat) (I : Nat → Int → Int) (L : Nat → Int → Int64) : am_go0 cl 167 120 ls [.inr (.inr (some 53))] (am_GS N, am_GR, I, L) = am_bd (cl 172 [.inr (.inr (some 53))] (am_GS N, am_GR, I, L)) (fun v h2 => am_go0 cl 167 123 ls (v.toList ++ []) h2) := am_rV am_m167 d_167_120 am_k9269 rfl am_m172 (gs_53 N) (by decide) (Nat.le_of_ble_eq_true rfl) rfl ls
theorem d_167_123 : am_code 167 123 = some (.goto 86, 3) := by decide +kernel
theorem s_167_123 (cl : am_C) (ls : am_Ls) (st : List am_V) (h : am_H) : am_go0 cl 167 123 ls st h = am_go0 cl 167 209 ls st h := am_rGo am_m167 d_167_123 (by decide) _ _ _
theorem d_167_126 : am_code 167 126 = some (.iload_n 3, 1) := by decide +kernel
theorem s_167_126 (cl : am_C) (a0 a1 a2 : Option am_V) (x : Int) (st : List am_V) (h : am_H) : am_go0 cl 167 126 [a0, a1, a2, some (.inl x)] st h = am_go0 cl 167 127 [a0, a1, a2, some (.inl x)] (.inl x :: st) h := am_r am_m167 d_167_126 rfl
theorem d_167_127 : am_code 167 127 = some (.sipush 200, 3) := by decide +kernel
theorem s_167_127 (cl : am_C) (ls : am_Ls) (st : List am_V) (h : am_H) : am_go0 cl 167 127 ls st h = am_go0 cl 167 130 ls (.inl 200 :: st) h := am_rBs am_m167 d_167_127 (by decide) rfl _ _ _
theorem d_167_130 : am_code 167 130 = some (.if_icmp .lt 57, 3) := by decide +kernel
theorem s_167_130 (cl : am_C) (ls : am_Ls) (x y : Int) (st : List am_V) (h : am_H) : am_go0 cl 167 130 ls (.inl y :: .inl x :: st) h = if x < y then am_go0 cl 167 187 ls st h else am_go0 cl 167 133 ls st h := (am_rJ0 am_m167 d_167_130 (by decide) rfl x y ls st h).trans (am_ifT (am_cmp_lt x y) _ _)
theorem d_167_133 : am_code 167 133 = some (.aload_n 0, 1) := by decide +kernel
theorem s_167_133 (cl : am_C) (a1 a2 a3 : Option am_V) (x : Nat) (st : List am_V) (h : am_H) : am_go0 cl 167 133 [some (.inr (.inr (some x))), a1, a2, a3] st h = am_go0 cl 167 134 [some (.inr (.inr (some x))), a1, a2, a3] (.inr (.inr (some x)) :: st) h := am_r am_m167 d_167_133 rfl
theorem d_167_134 : am_code 167 134 = some (.dup, 1) := by decide +kernel
theorem s_167_134 (cl : am_C) (ls : am_Ls) (x : Nat) (st : List am_V) (h : am_H) : am_go0 cl 167 134 ls (.inr (.inr (some x)) :: st) h = am_go0 cl 167 135 ls (.inr (.inr (some x)) :: .inr (.inr (some x)) :: st) h := am_r am_m167 d_167_134 rfl
theorem d_167_135 : am_code 167 135 = some (.getfield 232, 3) := by decide +kernel
theorem s_167_135 (cl : am_C) (ls : am_Ls) (st : List am_V) (N : Nat) (I : Nat → Int → Int) (L : Nat → Int → Int64) : am_go0 cl 167 135 ls (.inr (.inr (some 53)) :: st) (am_GS N, am_GR, I, L) = am_go0 cl 167 138 ls (.inl (I 53 45) :: st) (am_GS N, am_GR, I, L) := am_rG0 am_m167 d_167_135 am_f9232 rfl (gs_53 N) (by decide) rfl
theorem d_167_138 : am_code 167 138 = some (.iconst 1, 1) := by decide +kernel
theorem s_167_138 (cl : am_C) (ls : am_Ls) (st : List am_V) (h : am_H) : am_go0 cl 167 138 ls st h = am_go0 cl 167 139 ls (.inl 1 :: st) h := am_rK am_m167 d_167_138 (by decide) rfl _ _ _
theorem d_167_139 : am_code 167 139 = some (.isub, 1) := by decide +kernel
theorem s_167_139 (cl : am_C) (ls : am_Ls) (x y : Int) (st : List am_V) (h : am_H) : am_go0 cl 167 139 ls (.inl y :: .inl x :: st) h = am_go0 cl 167 140 ls (.inl (am_wr (x - y)) :: st) h := am_r am_m167 d_167_139 rfl
theorem d_167_140 : am_code 167 140 = some (.putfield 232, 3) := by decide +kernel
theorem s_167_140 (cl : am_C) (ls : am_Ls) (v : Int) (st : List am_V) (N : Nat) (I : Nat → Int → Int) (L : Nat → Int → Int64) : am_go0 cl 167 140 ls (.inl v :: .inr (.inr (some 53)) :: st) (am_GS N, am_GR, I, L) = am_go0 cl 167 143 ls st (am_GS N, am_GR, am_uI I 53 45 v, L) := am_rP0 am_m167 d_167_140 am_f9232 rfl (gs_53 N) (by decide) rfl
theorem d_167_143 : am_code 167 143 = some (.aload_n 0, 1) := by decide +kernel
theorem s_167_143 (cl : am_C) (a1 a2 a3 : Option am_V) (x : Nat) (st : List am_V) (h : am_H) : am_go0 cl 167 143 [some (.inr (.inr (some x))), a1, a2, a3] st h = am_go0 cl 167 144 [some (.inr (.inr (some x))), a1, a2, a3] (.inr (.inr (some x)) :: st) h := am_r am_m167 d_167_143 rfl
theorem d_167_144 : am_code 167 144 = some (.aload_n 0, 1) := by decide +kernel
theorem s_167_144 (cl : am_C) (a1 a2 a3 : Option am_V) (x : Nat) (st : List am_V) (h : am_H) : am_go0 cl 167 144 [some (.inr (.inr (some x))), a1, a2, a3] st h = am_go0 cl 167 145 [some (.inr (.inr (some x))), a1, a2, a3] (.inr (.inr (some x)) :: st) h := am_r am_m167 d_167_144 rfl
theorem d_167_145 : am_code 167 145 = some (.getfield 127, 3) := by decide +kernel
theorem s_167_145 (cl : am_C) (ls : am_Ls) (st : List am_V) (N : Nat) (I : Nat → Int → Int) (L : Nat → Int → Int64) : am_go0 cl 167 145 ls (.inr (.inr (some 53)) :: st) (am_GS N, am_GR, I, L) = am_go0 cl 167 148 ls (.inr (.inr (some 89)) :: st) (am_GS N, am_GR, I, L) := am_rG2 am_m167 d_167_145 am_f9127 rfl (gs_53 N) (by decide) gr_53_44 rfl
theorem d_167_148 : am_code 167 148 = some (.aload_n 0, 1) := by decide +kernel
theorem s_167_148 (cl : am_C) (a1 a2 a3 : Option am_V) (x : Nat) (st : List am_V) (h : am_H) : am_go0 cl 167 148 [some (.inr (.inr (some x))), a1, a2, a3] st h = am_go0 cl 167 149 [some (.inr (.inr (some x))), a1, a2, a3] (.inr (.inr (some x)) :: st) h := am_r am_m167 d_167_148 rfl
theorem d_167_149 : am_code 167 149 = some (.getfield 232, 3) := by decide +kernel
theorem s_167_149 (cl : am_C) (ls : am_Ls) (st : List am_V) (N : Nat) (I : Nat → Int → Int) (L : Nat → Int → Int64) : am_go0 cl 167 149 ls (.inr (.inr (some 53)) :: st) (am_GS N, am_GR, I, L) = am_go0 cl 167 152 ls (.inl (I 53 45) :: st) (am_GS N, am_GR, I, L) := am_rG0 am_m167 d_167_149 am_f9232 rfl (gs_53 N) (by decide) rfl
theorem d_167_152 : am_code 167 152 = some (.laload, 1) := by decide +kernel
theorem s_167_152 (cl : am_C) (ls : am_Ls) (i : Int) (k : Nat) (st : List am_V) (N : Nat) (I : Nat → Int → Int) (L : Nat → Int → Int64) : am_go0 cl 167 152 ls (.inl i :: .inr (.inr (some k)) :: st) (am_GS N, am_GR, I, L) = if am_inb (am_GS N) k 1 i = true then am_go0 cl 167 153 ls (.inr (.inl (L k i)) :: st) (am_GS N, am_GR, I, L) else none := am_rAl am_m167 d_167_152 rfl k ls st i _ _ I L
theorem d_167_153 : am_code 167 153 = some (.lconst 0, 1) := by decide +kernel
theorem s_167_153 (cl : am_C) (ls : am_Ls) (st : List am_V) (h : am_H) : am_go0 cl 167 153 ls st h = am_go0 cl 167 154 ls (.inr (.inl 0) :: st) h := am_r am_m167 d_167_153 rfl
theorem d_167_154 : am_code 167 154 = some (.lcmp, 1) := by decide +kernel
theorem s_167_154 (cl : am_C) (ls : am_Ls) (x y : Int64) (st : List am_V) (h : am_H) : am_go0 cl 167 154 ls (.inr (.inl y) :: .inr (.inl x) :: st) h = am_go0 cl 167 155 ls (.inl (lg_cmp x y).toInt :: st) h := am_r am_m167 d_167_154 rfl
theorem d_167_155 : am_code 167 155 = some (.ifCond .eq 16, 3) := by decide +kernel
theorem s_167_155 (cl : am_C) (ls : am_Ls) (x : Int) (st : List am_V) (h : am_H) : am_go0 cl 167 155 ls (.inl x :: st) h = if x = 0 then am_go0 cl 167 171 ls st h else am_go0 cl 167 158 ls st h := (am_rJ1 am_m167 d_167_155 (by decide) rfl x ls st h).trans (am_ifT (am_cmp_eq x 0) _ _)
theorem d_167_158 : am_code 167 158 = some (.aload_n 0, 1) := by decide +kernel
theorem s_167_158 (cl : am_C) (a1 a2 a3 : Option am_V) (x : Nat) (st : List am_V) (h : am_H) : am_go0 cl 167 158 [some (.inr (.inr (some x))), a1, a2, a3] st h = am_go0 cl 167 159 [some (.inr (.inr (some x))), a1, a2, a3] (.inr (.inr (some x)) :: st) h := am_r am_m167 d_167_158 rfl
theorem d_167_159 : am_code 167 159 = some (.getfield 71, 3) := by decide +kernel
theorem s_167_159 (cl : am_C) (ls : am_Ls) (st : List am_V) (N : Nat) (I : Nat → Int → Int) (L : Nat → Int → Int64) : am_go0 cl 167 159 ls (.inr (.inr (some 53)) :: st) (am_GS N, am_GR, I, L) = am_go0 cl 167 162 ls (.inr (.inr (some 73)) :: st) (am_GS N, am_GR, I, L) := am_rG2 am_m167 d_167_159 am_f9071 rfl (gs_53 N) (by decide) gr_53_24 rfl
theorem d_167_162 : am_code 167 162 = some (.iload_n 3, 1) := by decide +kernel
theorem s_167_162 (cl : am_C) (a0 a1 a2 : Option am_V) (x : Int) (st : List am_V) (h : am_H) : am_go0 cl 167 162 [a0, a1, a2, some (.inl x)] st h = am_go0 cl 167 163 [a0, a1, a2, some (.inl x)] (.inl x :: st) h := am_r am_m167 d_167_162 rfl
theorem d_167_163 : am_code 167 163 = some (.sipush 200, 3) := by decide +kernel
theorem s_167_163 (cl : am_C) (ls : am_Ls) (st : List am_V) (h : am_H) : am_go0 cl 167 163 ls st h = am_go0 cl 167 166 ls (.inl 200 :: st) h := am_rBs am_m167 d_167_163 (by decide) rfl _ _ _
theorem d_167_166 : am_code 167 166 = some (.isub, 1) := by decide +kernel
theorem s_167_166 (cl : am_C) (ls : am_Ls) (x y : Int) (st : List am_V) (h : am_H) : am_go0 cl 167 166 ls (.inl y :: .inl x :: st) h = am_go0 cl 167 167 ls (.inl (am_wr (x - y)) :: st) h := am_r am_m167 d_167_166 rfl
theorem d_167_167 : am_code 167 167 = some (.iaload, 1) := by decide +kernel
theorem s_167_167 (cl : am_C) (ls : am_Ls) (i : Int) (k : Nat) (st : List am_V) (N : Nat) (I : Nat → Int → Int) (L : Nat → Int → Int64) : am_go0 cl 167 167 ls (.inl i :: .inr (.inr (some k)) :: st) (am_GS N, am_GR, I, L) = if am_inb (am_GS N) k 0 i = true then am_go0 cl 167 168 ls (.inl (I k i) :: st) (am_GS N, am_GR, I, L) else none := am_rA am_m167 d_167_167 (by decide) rfl k ls st i _ _ I L
theorem d_167_168 : am_code 167 168 = some (.goto 13, 3) := by decide +kernel
theorem s_167_168 (cl : am_C) (ls : am_Ls) (st : List am_V) (h : am_H) : am_go0 cl 167 168 ls st h = am_go0 cl 167 181 ls st h := am_rGo am_m167 d_167_168 (by decide) _ _ _
theorem d_167_171 : am_code 167 171 = some (.aload_n 0, 1) := by decide +kernel
theorem s_167_171 (cl : am_C) (a1 a2 a3 : Option am_V) (x : Nat) (st : List am_V) (h : am_H) : am_go0 cl 167 171 [some (.inr (.inr (some x))), a1, a2, a3] st h = am_go0 cl 167 172 [some (.inr (.inr (some x))), a1, a2, a3] (.inr (.inr (some x)) :: st) h := am_r am_m167 d_167_171 rfl
theorem d_167_172 : am_code 167 172 = some (.getfield 74, 3) := by decide +kernel
theorem s_167_172 (cl : am_C) (ls : am_Ls) (st : List am_V) (N : Nat) (I : Nat → Int → Int) (L : Nat → Int → Int64) : am_go0 cl 167 172 ls (.inr (.inr (some 53)) :: st) (am_GS N, am_GR, I, L) = am_go0 cl 167 175 ls (.inr (.inr (some 74)) :: st) (am_GS N, am_GR, I, L) := am_rG2 am_m167 d_167_172 am_f9074 rfl (gs_53 N) (by decide) gr_53_25 rfl
theorem d_167_175 : am_code 167 175 = some (.iload_n 3, 1) := by decide +kernel
theorem s_167_175 (cl : am_C) (a0 a1 a2 : Option am_V) (x : Int) (st : List am_V) (h : am_H) : am_go0 cl 167 175 [a0, a1, a2, some (.inl x)] st h = am_go0 cl 167 176 [a0, a1, a2, some (.inl x)] (.inl x :: st) h := am_r am_m167 d_167_175 rfl
theorem d_167_176 : am_code 167 176 = some (.sipush 200, 3) := by decide +kernel
theorem s_167_176 (cl : am_C) (ls : am_Ls) (st : List am_V) (h : am_H) : am_go0 cl 167 176 ls st h = am_go0 cl 167 179 ls (.inl 200 :: st) h := am_rBs am_m167 d_167_176 (by decide) rfl _ _ _
theorem d_167_179 : am_code 167 179 = some (.isub, 1) := by decide +kernel
theorem s_167_179 (cl : am_C) (ls : am_Ls) (x y : Int) (st : List am_V) (h : am_H) : am_go0 cl 167 179 ls (.inl y :: .inl x :: st) h = am_go0 cl 167 180 ls (.inl (am_wr (x - y)) :: st) h := am_r am_m167 d_167_179 rfl
theorem d_167_180 : am_code 167 180 = some (.iaload, 1) := by decide +kernel
theorem s_167_180 (cl : am_C) (ls : am_Ls) (i : Int) (k : Nat) (st : List am_V) (N : Nat) (I : Nat → Int → Int) (L : Nat → Int → Int64) : am_go0 cl 167 180 ls (.inl i :: .inr (.inr (some k)) :: st) (am_GS N, am_GR, I, L) = if am_inb (am_GS N) k 0 i = true then am_go0 cl 167 181 ls (.inl (I k i) :: st) (am_GS N, am_GR, I, L) else none := am_rA am_m167 d_167_180 (by decide) rfl k ls st i _ _ I L
theorem d_167_181 : am_code 167 181 = some (.invokevirtual 249, 3) := by decide +kernel
theorem s_167_181 (cl : am_C) (ls : am_Ls) (x0 : Int) (N : Nat) (I : Nat → Int → Int) (L : Nat → Int → Int64) : am_go0 cl 167 181 ls [.inl x0, .inr (.inr (some 53))] (am_GS N, am_GR, I, L) = am_bd (cl 171 [.inr (.inr (some 53)), .inl x0] (am_GS N, am_GR, I, L)) (fun v h2 => am_go0 cl 167 184 ls (v.toList ++ []) h2) := am_rV am_m167 d_167_181 am_k9249 rfl am_m171 (gs_53 N) (by decide) (Nat.le_of_ble_eq_true rfl) rfl ls
theorem d_167_184 : am_code 167 184 = some (.goto 25, 3) := by decide +kernel
theorem s_167_184 (cl : am_C) (ls : am_Ls) (st : List am_V) (h : am_H) : am_go0 cl 167 184 ls st h = am_go0 cl 167 209 ls st h := am_rGo am_m167 d_167_184 (by decide) _ _ _
theorem d_167_187 : am_code 167 187 = some (.iload_n 3, 1) := by decide +kernel
theorem s_167_187 (cl : am_C) (a0 a1 a2 : Option am_V) (x : Int) (st : List am_V) (h : am_H) : am_go0 cl 167 187 [a0, a1, a2, some (.inl x)] st h = am_go0 cl 167 188 [a0, a1, a2, some (.inl x)] (.inl x :: st) h := am_r am_m167 d_167_187 rfl
theorem d_167_188 : am_code 167 188 = some (.bipush 100, 2) := by decide +kernel
theorem s_167_188 (cl : am_C) (ls : am_Ls) (st : List am_V) (h : am_H) : am_go0 cl 167 188 ls st h = am_go0 cl 167 190 ls (.inl 100 :: st) h := am_rB am_m167 d_167_188 (by decide) rfl _ _ _
theorem d_167_190 : am_code 167 190 = some (.if_icmp .lt 14, 3) := by decide +kernel
theorem s_167_190 (cl : am_C) (ls : am_Ls) (x y : Int) (st : List am_V) (h : am_H) : am_go0 cl 167 190 ls (.inl y :: .inl x :: st) h = if x < y then am_go0 cl 167 204 ls st h else am_go0 cl 167 193 ls st h := (am_rJ0 am_m167 d_167_190 (by decide) rfl x y ls st h).trans (am_ifT (am_cmp_lt x y) _ _)
theorem d_167_193 : am_code 167 193 = some (.aload_n 0, 1) := by decide +kernel
theorem s_167_193 (cl : am_C) (a1 a2 a3 : Option am_V) (x : Nat) (st : List am_V) (h : am_H) : am_go0 cl 167 193 [some (.inr (.inr (some x))), a1, a2, a3] st h = am_go0 cl 167 194 [some (.inr (.inr (some x))), a1, a2, a3] (.inr (.inr (some x)) :: st) h := am_r am_m167 d_167_193 rfl
theorem d_167_194 : am_code 167 194 = some (.iload_n 3, 1) := by decide +kernel
theorem s_167_194 (cl : am_C) (a0 a1 a2 : Option am_V) (x : Int) (st : List am_V) (h : am_H) : am_go0 cl 167 194 [a0, a1, a2, some (.inl x)] st h = am_go0 cl 167 195 [a0, a1, a2, some (.inl x)] (.inl x :: st) h := am_r am_m167 d_167_194 rfl
theorem d_167_195 : am_code 167 195 = some (.bipush 100, 2) := by decide +kernel
theorem s_167_195 (cl : am_C) (ls : am_Ls) (st : List am_V) (h : am_H) : am_go0 cl 167 195 ls st h = am_go0 cl 167 197 ls (.inl 100 :: st) h := am_rB am_m167 d_167_195 (by decide) rfl _ _ _
theorem d_167_197 : am_code 167 197 = some (.isub, 1) := by decide +kernel
theorem s_167_197 (cl : am_C) (ls : am_Ls) (x y : Int) (st : List am_V) (h : am_H) : am_go0 cl 167 197 ls (.inl y :: .inl x :: st) h = am_go0 cl 167 198 ls (.inl (am_wr (x - y)) :: st) h := am_r am_m167 d_167_197 rfl
theorem d_167_198 : am_code 167 198 = some (.invokevirtual 272, 3) := by decide +kernel
theorem s_167_198 (cl : am_C) (ls : am_Ls) (x0 : Int) (N : Nat) (I : Nat → Int → Int) (L : Nat → Int → Int64) : am_go0 cl 167 198 ls [.inl x0, .inr (.inr (some 53))] (am_GS N, am_GR, I, L) = am_bd (cl 173 [.inr (.inr (some 53)), .inl x0] (am_GS N, am_GR, I, L)) (fun v h2 => am_go0 cl 167 201 ls (v.toList ++ []) h2) := am_rV am_m167 d_167_198 am_k9272 rfl am_m173 (gs_53 N) (by decide) (Nat.le_of_ble_eq_true rfl) rfl ls
theorem d_167_201 : am_code 167 201 = some (.goto 8, 3) := by decide +kernel
theorem s_167_201 (cl : am_C) (ls : am_Ls) (st : List am_V) (h : am_H) : am_go0 cl 167 201 ls st h = am_go0 cl 167 209 ls st h := am_rGo am_m167 d_167_201 (by decide) _ _ _
theorem d_167_204 : am_code 167 204 = some (.aload_n 0, 1) := by decide +kernel
theorem s_167_204 (cl : am_C) (a1 a2 a3 : Option am_V) (x : Nat) (st : List am_V) (h : am_H) : am_go0 cl 167 204 [some (.inr (.inr (some x))), a1, a2, a3] st h = am_go0 cl 167 205 [some (.inr (.inr (some x))), a1, a2, a3] (.inr (.inr (some x)) :: st) h := am_r am_m167 d_167_204 rfl
theorem d_167_205 : am_code 167 205 = some (.iload_n 3, 1) := by decide +kernel
theorem s_167_205 (cl : am_C) (a0 a1 a2 : Option am_V) (x : Int) (st : List am_V) (h : am_H) : am_go0 cl 167 205 [a0, a1, a2, some (.inl x)] st h = am_go0 cl 167 206 [a0, a1, a2, some (.inl x)] (.inl x :: st) h := am_r am_m167 d_167_205 rfl
theorem d_167_206 : am_code 167 206 = some (.invokevirtual 275, 3) := by decide +kernel
theorem s_167_206 (cl : am_C) (ls : am_Ls) (x0 : Int) (N : Nat) (I : Nat → Int → Int) (L : Nat → Int → Int64) : am_go0 cl 167 206 ls [.inl x0, .inr (.inr (some 53))] (am_GS N, am_GR, I, L) = am_bd (cl 175 [.inr (.inr (some 53)), .inl x0] (am_GS N, am_GR, I, L)) (fun v h2 => am_go0 cl 167 209 ls (v.toList ++ []) h2) := am_rV am_m167 d_167_206 am_k9275 rfl am_m175 (gs_53 N) (by decide) (Nat.le_of_ble_eq_true rfl) rfl ls
theorem d_167_209 : am_code 167 209 = some (.goto (-131), 3) := by decide +kernel
theorem s_167_209 (cl : am_C) (ls : am_Ls) (st : List am_V) (h : am_H) : am_go0 cl 167 209 ls st h = am_go0 cl 167 78 ls st h := am_rGo am_m167 d_167_209 (by decide) _ _ _
theorem d_167_212 : am_code 167 212 = some (.aload_n 0, 1) := by decide +kernel
theorem s_167_212 (cl : am_C) (a1 a2 a3 : Option am_V) (x : Nat) (st : List am_V) (h : am_H) : am_go0 cl 167 212 [some (.inr (.inr (some x))), a1, a2, a3] st h = am_go0 cl 167 213 [some (.inr (.inr (some x))), a1, a2, a3] (.inr (.inr (some x)) :: st) h := am_r am_m167 d_167_212 rfl
theorem d_167_213 : am_code 167 213 = some (.getfield 235, 3) := by decide +kernel
theorem s_167_213 (cl : am_C) (ls : am_Ls) (st : List am_V) (N : Nat) (I : Nat → Int → Int) (L : Nat → Int → Int64) : am_go0 cl 167 213 ls (.inr (.inr (some 53)) :: st) (am_GS N, am_GR, I, L) = am_go0 cl 167 216 ls (.inl (I 53 50) :: st) (am_GS N, am_GR, I, L) := am_rG0 am_m167 d_167_213 am_f9235 rfl (gs_53 N) (by decide) rfl
theorem d_167_216 : am_code 167 216 = some (.ifCond .ne 10, 3) := by decide +kernel
theorem s_167_216 (cl : am_C) (ls : am_Ls) (x : Int) (st : List am_V) (h : am_H) : am_go0 cl 167 216 ls (.inl x :: st) h = if x = 0 then am_go0 cl 167 219 ls st h else am_go0 cl 167 226 ls st h := (am_rJ1 am_m167 d_167_216 (by decide) rfl x ls st h).trans (am_ifF ((am_cmp_ne x 0).trans Iff.rfl) _ _)
theorem d_167_219 : am_code 167 219 = some (.aload_n 0, 1) := by decide +kernel
theorem s_167_219 (cl : am_C) (a1 a2 a3 : Option am_V) (x : Nat) (st : List am_V) (h : am_H) : am_go0 cl 167 219 [some (.inr (.inr (some x))), a1, a2, a3] st h = am_go0 cl 167 220 [some (.inr (.inr (some x))), a1, a2, a3] (.inr (.inr (some x)) :: st) h := am_r am_m167 d_167_219 rfl
theorem d_167_220 : am_code 167 220 = some (.getfield 127, 3) := by decide +kernel
theorem s_167_220 (cl : am_C) (ls : am_Ls) (st : List am_V) (N : Nat) (I : Nat → Int → Int) (L : Nat → Int → Int64) : am_go0 cl 167 220 ls (.inr (.inr (some 53)) :: st) (am_GS N, am_GR, I, L) = am_go0 cl 167 223 ls (.inr (.inr (some 89)) :: st) (am_GS N, am_GR, I, L) := am_rG2 am_m167 d_167_220 am_f9127 rfl (gs_53 N) (by decide) gr_53_44 rfl
theorem d_167_223 : am_code 167 223 = some (.iconst 0, 1) := by decide +kernel
theorem s_167_223 (cl : am_C) (ls : am_Ls) (st : List am_V) (h : am_H) : am_go0 cl 167 223 ls st h = am_go0 cl 167 224 ls (.inl 0 :: st) h := am_rK am_m167 d_167_223 (by decide) rfl _ _ _
theorem d_167_224 : am_code 167 224 = some (.laload, 1) := by decide +kernel
theorem s_167_224 (cl : am_C) (ls : am_Ls) (i : Int) (k : Nat) (st : List am_V) (N : Nat) (I : Nat → Int → Int) (L : Nat → Int → Int64) : am_go0 cl 167 224 ls (.inl i :: .inr (.inr (some k)) :: st) (am_GS N, am_GR, I, L) = if am_inb (am_GS N) k 1 i = true then am_go0 cl 167 225 ls (.inr (.inl (L k i)) :: st) (am_GS N, am_GR, I, L) else none := am_rAl am_m167 d_167_224 rfl k ls st i _ _ I L
theorem d_167_225 : am_code 167 225 = some (.lreturn, 1) := by decide +kernel
theorem s_167_225 (cl : am_C) (ls : am_Ls) (x : Int64) (h : am_H) : am_go0 cl 167 225 ls [.inr (.inl x)] h = some (some (.inr (.inl x)), h) := am_rE am_m167 d_167_225 rfl
theorem d_167_226 : am_code 167 226 = some (.iconst 0, 1) := by decide +kernel
theorem s_167_226 (cl : am_C) (ls : am_Ls) (st : List am_V) (h : am_H) : am_go0 cl 167 226 ls st h = am_go0 cl 167 227 ls (.inl 0 :: st) h := am_rK am_m167 d_167_226 (by decide) rfl _ _ _
theorem d_167_227 : am_code 167 227 = some (.istore_n 3, 1) := by decide +kernel
theorem s_167_227 (cl : am_C) (a0 a1 a2 a3 : Option am_V) (x : Int) (st : List am_V) (h : am_H) : am_go0 cl 167 227 [a0, a1, a2, a3] (.inl x :: st) h = am_go0 cl 167 228 [a0, a1, am_c1 a2, some (.inl x)] st h := am_r am_m167 d_167_227 rfl
theorem d_167_228 : am_code 167 228 = some (.iload_n 3, 1) := by decide +kernel
theorem s_167_228 (cl : am_C) (a0 a1 a2 : Option am_V) (x : Int) (st : List am_V) (h : am_H) : am_go0 cl 167 228 [a0, a1, a2, some (.inl x)] st h = am_go0 cl 167 229 [a0, a1, a2, some (.inl x)] (.inl x :: st) h := am_r am_m167 d_167_228 rfl
theorem d_167_229 : am_code 167 229 = some (.sipush 240, 3) := by decide +kernel
theorem s_167_229 (cl : am_C) (ls : am_Ls) (st : List am_V) (h : am_H) : am_go0 cl 167 229 ls st h = am_go0 cl 167 232 ls (.inl 240 :: st) h := am_rBs am_m167 d_167_229 (by decide) rfl _ _ _
theorem d_167_232 : am_code 167 232 = some (.if_icmp .ge 16, 3) := by decide +kernel
theorem s_167_232 (cl : am_C) (ls : am_Ls) (x y : Int) (st : List am_V) (h : am_H) : am_go0 cl 167 232 ls (.inl y :: .inl x :: st) h = if x < y then am_go0 cl 167 235 ls st h else am_go0 cl 167 248 ls st h := (am_rJ0 am_m167 d_167_232 (by decide) rfl x y ls st h).trans (am_ifF ((am_cmp_ge x y).trans Int.not_lt.symm) _ _)
theorem d_167_235 : am_code 167 235 = some (.aload_n 0, 1) := by decide +kernel
theorem s_167_235 (cl : am_C) (a1 a2 a3 : Option am_V) (x : Nat) (st : List am_V) (h : am_H) : am_go0 cl 167 235 [some (.inr (.inr (some x))), a1, a2, a3] st h = am_go0 cl 167 236 [some (.inr (.inr (some x))), a1, a2, a3] (.inr (.inr (some x)) :: st) h := am_r am_m167 d_167_235 rfl
theorem d_167_236 : am_code 167 236 = some (.getfield 99, 3) := by decide +kernel
theorem s_167_236 (cl : am_C) (ls : am_Ls) (st : List am_V) (N : Nat) (I : Nat → Int → Int) (L : Nat → Int → Int64) : am_go0 cl 167 236 ls (.inr (.inr (some 53)) :: st) (am_GS N, am_GR, I, L) = am_go0 cl 167 239 ls (.inr (.inr (some 82)) :: st) (am_GS N, am_GR, I, L) := am_rG2 am_m167 d_167_236 am_f9099 rfl (gs_53 N) (by decide) gr_53_34 rfl
theorem d_167_239 : am_code 167 239 = some (.iload_n 3, 1) := by decide +kernel
theorem s_167_239 (cl : am_C) (a0 a1 a2 : Option am_V) (x : Int) (st : List am_V) (h : am_H) : am_go0 cl 167 239 [a0, a1, a2, some (.inl x)] st h = am_go0 cl 167 240 [a0, a1, a2, some (.inl x)] (.inl x :: st) h := am_r am_m167 d_167_239 rfl
theorem d_167_240 : am_code 167 240 = some (.iconst 0, 1) := by decide +kernel
theorem s_167_240 (cl : am_C) (ls : am_Ls) (st : List am_V) (h : am_H) : am_go0 cl 167 240 ls st h = am_go0 cl 167 241 ls (.inl 0 :: st) h := am_rK am_m167 d_167_240 (by decide) rfl _ _ _
theorem d_167_241 : am_code 167 241 = some (.bastore, 1) := by decide +kernel
theorem s_167_241 (cl : am_C) (ls : am_Ls) (i : Int) (v : Int) (k : Nat) (st : List am_V) (N : Nat) (I : Nat → Int → Int) (L : Nat → Int → Int64) : am_go0 cl 167 241 ls (.inl v :: .inl i :: .inr (.inr (some k)) :: st) (am_GS N, am_GR, I, L) = if am_inb (am_GS N) k 2 i = true ∧ (v = 0 ∨ v = 1) then am_go0 cl 167 242 ls st (am_GS N, am_GR, am_uI I k i v, L) else none := am_rSb am_m167 d_167_241 rfl k ls st i v _ _ I L
theorem d_167_242 : am_code 167 242 = some (.iinc 3 1, 3) := by decide +kernel
theorem s_167_242 (cl : am_C) (a0 a1 a2 : Option am_V) (x : Int) (st : List am_V) (h : am_H) : am_go0 cl 167 242 [a0, a1, a2, some (.inl x)] st h = am_go0 cl 167 245 [a0, a1, am_c1 a2, some (.inl (am_wr (x + 1)))] st h := am_r am_m167 d_167_242 rfl
theorem d_167_245 : am_code 167 245 = some (.goto (-17), 3) := by decide +kernel
theorem s_167_245 (cl : am_C) (ls : am_Ls) (st : List am_V) (h : am_H) : am_go0 cl 167 245 ls st h = am_go0 cl 167 228 ls st h := am_rGo am_m167 d_167_245 (by decide) _ _ _
theorem d_167_248 : am_code 167 248 = some (.lconst 0, 1) := by decide +kernel
theorem s_167_248 (cl : am_C) (ls : am_Ls) (st : List am_V) (h : am_H) : am_go0 cl 167 248 ls st h = am_go0 cl 167 249 ls (.inr (.inl 0) :: st) h := am_r am_m167 d_167_248 rfl
theorem d_167_249 : am_code 167 249 = some (.lreturn, 1) := by decide +kernel
theorem s_167_249 (cl : am_C) (ls : am_Ls) (x : Int64) (h : am_H) : am_go0 cl 167 249 ls [.inr (.inl x)] h = some (some (.inr (.inl x)), h) := am_rE am_m167 d_167_249 rfl
theorem e_167 (d : Nat) (t : Nat) (p0 : Int) (p1 : Int) (h : am_H) : am_call (d + 1) 167 [.inr (.inr (some t)), .inl p0, .inl p1] h = am_go0 (am_call d) 167 0 [some (.inr (.inr (some t))), some (.inl p0), some (.inl p1), none] [] h := am_callE am_m167 (Nat.le_of_ble_eq_true rfl) rfl
theorem d_168_0 : am_code 168 0 = some (.iconst 4, 1) := by decide +kernel
theorem s_168_0 (cl : am_C) (ls : am_Ls) (st : List am_V) (h : am_H) : am_go0 cl 168 0 ls st h = am_go0 cl 168 1 ls (.inl 4 :: st) h := am_rK am_m168 d_168_0 (by decide) rfl _ _ _
theorem d_168_1 : am_code 168 1 = some (.iload_n 1, 1) := by decide +kernel
theorem s_168_1 (cl : am_C) (a0 a2 a3 a4 a5 : Option am_V) (x : Int) (st : List am_V) (h : am_H) : am_go0 cl 168 1 [a0, some (.inl x), a2, a3, a4, a5] st h = am_go0 cl 168 2 [a0, some (.inl x), a2, a3, a4, a5] (.inl x :: st) h := am_r am_m168 d_168_1 rfl
theorem d_168_2 : am_code 168 2 = some (.imul, 1) := by decide +kernel
theorem s_168_2 (cl : am_C) (ls : am_Ls) (x y : Int) (st : List am_V) (h : am_H) : am_go0 cl 168 2 ls (.inl y :: .inl x :: st) h = am_go0 cl 168 3 ls (.inl (am_wr (x * y)) :: st) h := am_r am_m168 d_168_2 rfl
theorem d_168_3 : am_code 168 3 = some (.iload_n 2, 1) := by decide +kernel
theorem s_168_3 (cl : am_C) (a0 a1 a3 a4 a5 : Option am_V) (x : Int) (st : List am_V) (h : am_H) : am_go0 cl 168 3 [a0, a1, some (.inl x), a3, a4, a5] st h = am_go0 cl 168 4 [a0, a1, some (.inl x), a3, a4, a5] (.inl x :: st) h := am_r am_m168 d_168_3 rfl
theorem d_168_4 : am_code 168 4 = some (.iadd, 1) := by decide +kernel
theorem s_168_4 (cl : am_C) (ls : am_Ls) (x y : Int) (st : List am_V) (h : am_H) : am_go0 cl 168 4 ls (.inl y :: .inl x :: st) h = am_go0 cl 168 5 ls (.inl (am_wr (x + y)) :: st) h := am_r am_m168 d_168_4 rfl
theorem d_168_5 : am_code 168 5 = some (.istore_n 3, 1) := by decide +kernel
theorem s_168_5 (cl : am_C) (a0 a1 a2 a3 a4 a5 : Option am_V) (x : Int) (st : List am_V) (h : am_H) : am_go0 cl 168 5 [a0, a1, a2, a3, a4, a5] (.inl x :: st) h = am_go0 cl 168 6 [a0, a1, am_c1 a2, some (.inl x), a4, a5] st h := am_r am_m168 d_168_5 rfl
theorem d_168_6 : am_code 168 6 = some (.aload_n 0, 1) := by decide +kernel
theorem s_168_6 (cl : am_C) (a1 a2 a3 a4 a5 : Option am_V) (x : Nat) (st : List am_V) (h : am_H) : am_go0 cl 168 6 [some (.inr (.inr (some x))), a1, a2, a3, a4, a5] st h = am_go0 cl 168 7 [some (.inr (.inr (some x))), a1, a2, a3, a4, a5] (.inr (.inr (some x)) :: st) h := am_r am_m168 d_168_6 rfl
theorem d_168_7 : am_code 168 7 = some (.getfield 96, 3) := by decide +kernel
theorem s_168_7 (cl : am_C) (ls : am_Ls) (st : List am_V) (N : Nat) (I : Nat → Int → Int) (L : Nat → Int → Int64) : am_go0 cl 168 7 ls (.inr (.inr (some 53)) :: st) (am_GS N, am_GR, I, L) = am_go0 cl 168 10 ls (.inr (.inr (some 81)) :: st) (am_GS N, am_GR, I, L) := am_rG2 am_m168 d_168_7 am_f9096 rfl (gs_53 N) (by decide) gr_53_33 rfl
theorem d_168_10 : am_code 168 10 = some (.iload_n 3, 1) := by decide +kernel
theorem s_168_10 (cl : am_C) (a0 a1 a2 a4 a5 : Option am_V) (x : Int) (st : List am_V) (h : am_H) : am_go0 cl 168 10 [a0, a1, a2, some (.inl x), a4, a5] st h = am_go0 cl 168 11 [a0, a1, a2, some (.inl x), a4, a5] (.inl x :: st) h := am_r am_m168 d_168_10 rfl
theorem d_168_11 : am_code 168 11 = some (.baload, 1) := by decide +kernel
theorem s_168_11 (cl : am_C) (ls : am_Ls) (i : Int) (k : Nat) (st : List am_V) (N : Nat) (I : Nat → Int → Int) (L : Nat → Int → Int64) : am_go0 cl 168 11 ls (.inl i :: .inr (.inr (some k)) :: st) (am_GS N, am_GR, I, L) = if am_inb (am_GS N) k 2 i = true then am_go0 cl 168 12 ls (.inl (I k i) :: st) (am_GS N, am_GR, I, L) else none := am_rAb am_m168 d_168_11 rfl k ls st i _ _ I L
theorem d_168_12 : am_code 168 12 = some (.ifCond .eq 14, 3) := by decide +kernel
theorem s_168_12 (cl : am_C) (ls : am_Ls) (x : Int) (st : List am_V) (h : am_H) : am_go0 cl 168 12 ls (.inl x :: st) h = if x = 0 then am_go0 cl 168 26 ls st h else am_go0 cl 168 15 ls st h := (am_rJ1 am_m168 d_168_12 (by decide) rfl x ls st h).trans (am_ifT (am_cmp_eq x 0) _ _)
theorem d_168_15 : am_code 168 15 = some (.aload_n 0, 1) := by decide +kernel
theorem s_168_15 (cl : am_C) (a1 a2 a3 a4 a5 : Option am_V) (x : Nat) (st : List am_V) (h : am_H) : am_go0 cl 168 15 [some (.inr (.inr (some x))), a1, a2, a3, a4, a5] st h = am_go0 cl 168 16 [some (.inr (.inr (some x))), a1, a2, a3, a4, a5] (.inr (.inr (some x)) :: st) h := am_r am_m168 d_168_15 rfl
theorem d_168_16 : am_code 168 16 = some (.aload_n 0, 1) := by decide +kernel
theorem s_168_16 (cl : am_C) (a1 a2 a3 a4 a5 : Option am_V) (x : Nat) (st : List am_V) (h : am_H) : am_go0 cl 168 16 [some (.inr (.inr (some x))), a1, a2, a3, a4, a5] st h = am_go0 cl 168 17 [some (.inr (.inr (some x))), a1, a2, a3, a4, a5] (.inr (.inr (some x)) :: st) h := am_r am_m168 d_168_16 rfl
theorem d_168_17 : am_code 168 17 = some (.getfield 102, 3) := by decide +kernel
theorem s_168_17 (cl : am_C) (ls : am_Ls) (st : List am_V) (N : Nat) (I : Nat → Int → Int) (L : Nat → Int → Int64) : am_go0 cl 168 17 ls (.inr (.inr (some 53)) :: st) (am_GS N, am_GR, I, L) = am_go0 cl 168 20 ls (.inr (.inr (some 83)) :: st) (am_GS N, am_GR, I, L) := am_rG2 am_m168 d_168_17 am_f9102 rfl (gs_53 N) (by decide) gr_53_35 rfl
theorem d_168_20 : am_code 168 20 = some (.iload_n 3, 1) := by decide +kernel
theorem s_168_20 (cl : am_C) (a0 a1 a2 a4 a5 : Option am_V) (x : Int) (st : List am_V) (h : am_H) : am_go0 cl 168 20 [a0, a1, a2, some (.inl x), a4, a5] st h = am_go0 cl 168 21 [a0, a1, a2, some (.inl x), a4, a5] (.inl x :: st) h := am_r am_m168 d_168_20 rfl
theorem d_168_21 : am_code 168 21 = some (.laload, 1) := by decide +kernel
theorem s_168_21 (cl : am_C) (ls : am_Ls) (i : Int) (k : Nat) (st : List am_V) (N : Nat) (I : Nat → Int → Int) (L : Nat → Int → Int64) : am_go0 cl 168 21 ls (.inl i :: .inr (.inr (some k)) :: st) (am_GS N, am_GR, I, L) = if am_inb (am_GS N) k 1 i = true then am_go0 cl 168 22 ls (.inr (.inl (L k i)) :: st) (am_GS N, am_GR, I, L) else none := am_rAl am_m168 d_168_21 rfl k ls st i _ _ I L
theorem d_168_22 : am_code 168 22 = some (.invokevirtual 238, 3) := by decide +kernel
theorem s_168_22 (cl : am_C) (ls : am_Ls) (x0 : Int64) (N : Nat) (I : Nat → Int → Int) (L : Nat → Int → Int64) : am_go0 cl 168 22 ls [.inr (.inl x0), .inr (.inr (some 53))] (am_GS N, am_GR, I, L) = am_bd (cl 169 [.inr (.inr (some 53)), .inr (.inl x0)] (am_GS N, am_GR, I, L)) (fun v h2 => am_go0 cl 168 25 ls (v.toList ++ []) h2) := am_rV am_m168 d_168_22 am_k9238 rfl am_m169 (gs_53 N) (by decide) (Nat.le_of_ble_eq_true rfl) rfl ls
theorem d_168_25 : am_code 168 25 = some (.return_, 1) := by decide +kernel
theorem s_168_25 (cl : am_C) (ls : am_Ls) (h : am_H) : am_go0 cl 168 25 ls [] h = some (none, h) := am_rE am_m168 d_168_25 rfl
theorem d_168_26 : am_code 168 26 = some (.aload_n 0, 1) := by decide +kernel
theorem s_168_26 (cl : am_C) (a1 a2 a3 a4 a5 : Option am_V) (x : Nat) (st : List am_V) (h : am_H) : am_go0 cl 168 26 [some (.inr (.inr (some x))), a1, a2, a3, a4, a5] st h = am_go0 cl 168 27 [some (.inr (.inr (some x))), a1, a2, a3, a4, a5] (.inr (.inr (some x)) :: st) h := am_r am_m168 d_168_26 rfl
theorem d_168_27 : am_code 168 27 = some (.getfield 62, 3) := by decide +kernel
theorem s_168_27 (cl : am_C) (ls : am_Ls) (st : List am_V) (N : Nat) (I : Nat → Int → Int) (L : Nat → Int → Int64) : am_go0 cl 168 27 ls (.inr (.inr (some 53)) :: st) (am_GS N, am_GR, I, L) = am_go0 cl 168 30 ls (.inr (.inr (some 70)) :: st) (am_GS N, am_GR, I, L) := am_rG2 am_m168 d_168_27 am_f9062 rfl (gs_53 N) (by decide) gr_53_20 rfl
theorem d_168_30 : am_code 168 30 = some (.iconst 4, 1) := by decide +kernel
theorem s_168_30 (cl : am_C) (ls : am_Ls) (st : List am_V) (h : am_H) : am_go0 cl 168 30 ls st h = am_go0 cl 168 31 ls (.inl 4 :: st) h := am_rK am_m168 d_168_30 (by decide) rfl _ _ _
theorem d_168_31 : am_code 168 31 = some (.aload_n 0, 1) := by decide +kernel
theorem s_168_31 (cl : am_C) (a1 a2 a3 a4 a5 : Option am_V) (x : Nat) (st : List am_V) (h : am_H) : am_go0 cl 168 31 [some (.inr (.inr (some x))), a1, a2, a3, a4, a5] st h = am_go0 cl 168 32 [some (.inr (.inr (some x))), a1, a2, a3, a4, a5] (.inr (.inr (some x)) :: st) h := am_r am_m168 d_168_31 rfl
theorem d_168_32 : am_code 168 32 = some (.getfield 90, 3) := by decide +kernel
theorem s_168_32 (cl : am_C) (ls : am_Ls) (st : List am_V) (N : Nat) (I : Nat → Int → Int) (L : Nat → Int → Int64) : am_go0 cl 168 32 ls (.inr (.inr (some 53)) :: st) (am_GS N, am_GR, I, L) = am_go0 cl 168 35 ls (.inr (.inr (some 79)) :: st) (am_GS N, am_GR, I, L) := am_rG2 am_m168 d_168_32 am_f9090 rfl (gs_53 N) (by decide) gr_53_31 rfl
theorem d_168_35 : am_code 168 35 = some (.iload_n 1, 1) := by decide +kernel
theorem s_168_35 (cl : am_C) (a0 a2 a3 a4 a5 : Option am_V) (x : Int) (st : List am_V) (h : am_H) : am_go0 cl 168 35 [a0, some (.inl x), a2, a3, a4, a5] st h = am_go0 cl 168 36 [a0, some (.inl x), a2, a3, a4, a5] (.inl x :: st) h := am_r am_m168 d_168_35 rfl
theorem d_168_36 : am_code 168 36 = some (.iaload, 1) := by decide +kernel
theorem s_168_36 (cl : am_C) (ls : am_Ls) (i : Int) (k : Nat) (st : List am_V) (N : Nat) (I : Nat → Int → Int) (L : Nat → Int → Int64) : am_go0 cl 168 36 ls (.inl i :: .inr (.inr (some k)) :: st) (am_GS N, am_GR, I, L) = if am_inb (am_GS N) k 0 i = true then am_go0 cl 168 37 ls (.inl (I k i) :: st) (am_GS N, am_GR, I, L) else none := am_rA am_m168 d_168_36 (by decide) rfl k ls st i _ _ I L
theorem d_168_37 : am_code 168 37 = some (.imul, 1) := by decide +kernel
theorem s_168_37 (cl : am_C) (ls : am_Ls) (x y : Int) (st : List am_V) (h : am_H) : am_go0 cl 168 37 ls (.inl y :: .inl x :: st) h = am_go0 cl 168 38 ls (.inl (am_wr (x * y)) :: st) h := am_r am_m168 d_168_37 rfl
theorem d_168_38 : am_code 168 38 = some (.iload_n 2, 1) := by decide +kernel
theorem s_168_38 (cl : am_C) (a0 a1 a3 a4 a5 : Option am_V) (x : Int) (st : List am_V) (h : am_H) : am_go0 cl 168 38 [a0, a1, some (.inl x), a3, a4, a5] st h = am_go0 cl 168 39 [a0, a1, some (.inl x), a3, a4, a5] (.inl x :: st) h := am_r am_m168 d_168_38 rfl
theorem d_168_39 : am_code 168 39 = some (.iadd, 1) := by decide +kernel
theorem s_168_39 (cl : am_C) (ls : am_Ls) (x y : Int) (st : List am_V) (h : am_H) : am_go0 cl 168 39 ls (.inl y :: .inl x :: st) h = am_go0 cl 168 40 ls (.inl (am_wr (x + y)) :: st) h := am_r am_m168 d_168_39 rfl
theorem d_168_40 : am_code 168 40 = some (.iaload, 1) := by decide +kernel
theorem s_168_40 (cl : am_C) (ls : am_Ls) (i : Int) (k : Nat) (st : List am_V) (N : Nat) (I : Nat → Int → Int) (L : Nat → Int → Int64) : am_go0 cl 168 40 ls (.inl i :: .inr (.inr (some k)) :: st) (am_GS N, am_GR, I, L) = if am_inb (am_GS N) k 0 i = true then am_go0 cl 168 41 ls (.inl (I k i) :: st) (am_GS N, am_GR, I, L) else none := am_rA am_m168 d_168_40 (by decide) rfl k ls st i _ _ I L
theorem d_168_41 : am_code 168 41 = some (.istore 4, 2) := by decide +kernel
theorem s_168_41 (cl : am_C) (a0 a1 a2 a3 a4 a5 : Option am_V) (x : Int) (st : List am_V) (h : am_H) : am_go0 cl 168 41 [a0, a1, a2, a3, a4, a5] (.inl x :: st) h = am_go0 cl 168 43 [a0, a1, a2, am_c1 a3, some (.inl x), a5] st h := am_r am_m168 d_168_41 rfl
theorem d_168_43 : am_code 168 43 = some (.iload 4, 2) := by decide +kernel
theorem s_168_43 (cl : am_C) (a0 a1 a2 a3 a5 : Option am_V) (x : Int) (st : List am_V) (h : am_H) : am_go0 cl 168 43 [a0, a1, a2, a3, some (.inl x), a5] st h = am_go0 cl 168 45 [a0, a1, a2, a3, some (.inl x), a5] (.inl x :: st) h := am_r am_m168 d_168_43 rfl
theorem d_168_45 : am_code 168 45 = some (.iconst (-1), 1) := by decide +kernel
theorem s_168_45 (cl : am_C) (ls : am_Ls) (st : List am_V) (h : am_H) : am_go0 cl 168 45 ls st h = am_go0 cl 168 46 ls (.inl (-1) :: st) h := am_rK am_m168 d_168_45 (by decide) rfl _ _ _
theorem d_168_46 : am_code 168 46 = some (.if_icmp .eq 8, 3) := by decide +kernel
theorem s_168_46 (cl : am_C) (ls : am_Ls) (x y : Int) (st : List am_V) (h : am_H) : am_go0 cl 168 46 ls (.inl y :: .inl x :: st) h = if x = y then am_go0 cl 168 54 ls st h else am_go0 cl 168 49 ls st h := (am_rJ0 am_m168 d_168_46 (by decide) rfl x y ls st h).trans (am_ifT (am_cmp_eq x y) _ _)
theorem d_168_49 : am_code 168 49 = some (.iload 4, 2) := by decide +kernel
theorem s_168_49 (cl : am_C) (a0 a1 a2 a3 a5 : Option am_V) (x : Int) (st : List am_V) (h : am_H) : am_go0 cl 168 49 [a0, a1, a2, a3, some (.inl x), a5] st h = am_go0 cl 168 51 [a0, a1, a2, a3, some (.inl x), a5] (.inl x :: st) h := am_r am_m168 d_168_49 rfl
theorem d_168_51 : am_code 168 51 = some (.goto 18, 3) := by decide +kernel
theorem s_168_51 (cl : am_C) (ls : am_Ls) (st : List am_V) (h : am_H) : am_go0 cl 168 51 ls st h = am_go0 cl 168 69 ls st h := am_rGo am_m168 d_168_51 (by decide) _ _ _
theorem d_168_54 : am_code 168 54 = some (.aload_n 0, 1) := by decide +kernel
theorem s_168_54 (cl : am_C) (a1 a2 a3 a4 a5 : Option am_V) (x : Nat) (st : List am_V) (h : am_H) : am_go0 cl 168 54 [some (.inr (.inr (some x))), a1, a2, a3, a4, a5] st h = am_go0 cl 168 55 [some (.inr (.inr (some x))), a1, a2, a3, a4, a5] (.inr (.inr (some x)) :: st) h := am_r am_m168 d_168_54 rfl
theorem d_168_55 : am_code 168 55 = some (.getfield 44, 3) := by decide +kernel
theorem s_168_55 (cl : am_C) (ls : am_Ls) (st : List am_V) (N : Nat) (I : Nat → Int → Int) (L : Nat → Int → Int64) : am_go0 cl 168 55 ls (.inr (.inr (some 53)) :: st) (am_GS N, am_GR, I, L) = am_go0 cl 168 58 ls (.inr (.inr (some 64)) :: st) (am_GS N, am_GR, I, L) := am_rG2 am_m168 d_168_55 am_f9044 rfl (gs_53 N) (by decide) gr_53_13 rfl
theorem d_168_58 : am_code 168 58 = some (.iconst 4, 1) := by decide +kernel
theorem s_168_58 (cl : am_C) (ls : am_Ls) (st : List am_V) (h : am_H) : am_go0 cl 168 58 ls st h = am_go0 cl 168 59 ls (.inl 4 :: st) h := am_rK am_m168 d_168_58 (by decide) rfl _ _ _
theorem d_168_59 : am_code 168 59 = some (.aload_n 0, 1) := by decide +kernel
theorem s_168_59 (cl : am_C) (a1 a2 a3 a4 a5 : Option am_V) (x : Nat) (st : List am_V) (h : am_H) : am_go0 cl 168 59 [some (.inr (.inr (some x))), a1, a2, a3, a4, a5] st h = am_go0 cl 168 60 [some (.inr (.inr (some x))), a1, a2, a3, a4, a5] (.inr (.inr (some x)) :: st) h := am_r am_m168 d_168_59 rfl
theorem d_168_60 : am_code 168 60 = some (.getfield 84, 3) := by decide +kernel
theorem s_168_60 (cl : am_C) (ls : am_Ls) (st : List am_V) (N : Nat) (I : Nat → Int → Int) (L : Nat → Int → Int64) : am_go0 cl 168 60 ls (.inr (.inr (some 53)) :: st) (am_GS N, am_GR, I, L) = am_go0 cl 168 63 ls (.inr (.inr (some 77)) :: st) (am_GS N, am_GR, I, L) := am_rG2 am_m168 d_168_60 am_f9084 rfl (gs_53 N) (by decide) gr_53_29 rfl
theorem d_168_63 : am_code 168 63 = some (.iload_n 1, 1) := by decide +kernel
theorem s_168_63 (cl : am_C) (a0 a2 a3 a4 a5 : Option am_V) (x : Int) (st : List am_V) (h : am_H) : am_go0 cl 168 63 [a0, some (.inl x), a2, a3, a4, a5] st h = am_go0 cl 168 64 [a0, some (.inl x), a2, a3, a4, a5] (.inl x :: st) h := am_r am_m168 d_168_63 rfl
theorem d_168_64 : am_code 168 64 = some (.iaload, 1) := by decide +kernel
theorem s_168_64 (cl : am_C) (ls : am_Ls) (i : Int) (k : Nat) (st : List am_V) (N : Nat) (I : Nat → Int → Int) (L : Nat → Int → Int64) : am_go0 cl 168 64 ls (.inl i :: .inr (.inr (some k)) :: st) (am_GS N, am_GR, I, L) = if am_inb (am_GS N) k 0 i = true then am_go0 cl 168 65 ls (.inl (I k i) :: st) (am_GS N, am_GR, I, L) else none := am_rA am_m168 d_168_64 (by decide) rfl k ls st i _ _ I L
theorem d_168_65 : am_code 168 65 = some (.imul, 1) := by decide +kernel
theorem s_168_65 (cl : am_C) (ls : am_Ls) (x y : Int) (st : List am_V) (h : am_H) : am_go0 cl 168 65 ls (.inl y :: .inl x :: st) h = am_go0 cl 168 66 ls (.inl (am_wr (x * y)) :: st) h := am_r am_m168 d_168_65 rfl
theorem d_168_66 : am_code 168 66 = some (.iload_n 2, 1) := by decide +kernel
theorem s_168_66 (cl : am_C) (a0 a1 a3 a4 a5 : Option am_V) (x : Int) (st : List am_V) (h : am_H) : am_go0 cl 168 66 [a0, a1, some (.inl x), a3, a4, a5] st h = am_go0 cl 168 67 [a0, a1, some (.inl x), a3, a4, a5] (.inl x :: st) h := am_r am_m168 d_168_66 rfl
theorem d_168_67 : am_code 168 67 = some (.iadd, 1) := by decide +kernel
theorem s_168_67 (cl : am_C) (ls : am_Ls) (x y : Int) (st : List am_V) (h : am_H) : am_go0 cl 168 67 ls (.inl y :: .inl x :: st) h = am_go0 cl 168 68 ls (.inl (am_wr (x + y)) :: st) h := am_r am_m168 d_168_67 rfl
theorem d_168_68 : am_code 168 68 = some (.iaload, 1) := by decide +kernel
theorem s_168_68 (cl : am_C) (ls : am_Ls) (i : Int) (k : Nat) (st : List am_V) (N : Nat) (I : Nat → Int → Int) (L : Nat → Int → Int64) : am_go0 cl 168 68 ls (.inl i :: .inr (.inr (some k)) :: st) (am_GS N, am_GR, I, L) = if am_inb (am_GS N) k 0 i = true then am_go0 cl 168 69 ls (.inl (I k i) :: st) (am_GS N, am_GR, I, L) else none := am_rA am_m168 d_168_68 (by decide) rfl k ls st i _ _ I L
theorem d_168_69 : am_code 168 69 = some (.istore 5, 2) := by decide +kernel
theorem s_168_69 (cl : am_C) (a0 a1 a2 a3 a4 a5 : Option am_V) (x : Int) (st : List am_V) (h : am_H) : am_go0 cl 168 69 [a0, a1, a2, a3, a4, a5] (.inl x :: st) h = am_go0 cl 168 71 [a0, a1, a2, a3, am_c1 a4, some (.inl x)] st h := am_r am_m168 d_168_69 rfl
theorem d_168_71 : am_code 168 71 = some (.aload_n 0, 1) := by decide +kernel
theorem s_168_71 (cl : am_C) (a1 a2 a3 a4 a5 : Option am_V) (x : Nat) (st : List am_V) (h : am_H) : am_go0 cl 168 71 [some (.inr (.inr (some x))), a1, a2, a3, a4, a5] st h = am_go0 cl 168 72 [some (.inr (.inr (some x))), a1, a2, a3, a4, a5] (.inr (.inr (some x)) :: st) h := am_r am_m168 d_168_71 rfl
theorem d_168_72 : am_code 168 72 = some (.getfield 99, 3) := by decide +kernel
theorem s_168_72 (cl : am_C) (ls : am_Ls) (st : List am_V) (N : Nat) (I : Nat → Int → Int) (L : Nat → Int → Int64) : am_go0 cl 168 72 ls (.inr (.inr (some 53)) :: st) (am_GS N, am_GR, I, L) = am_go0 cl 168 75 ls (.inr (.inr (some 82)) :: st) (am_GS N, am_GR, I, L) := am_rG2 am_m168 d_168_72 am_f9099 rfl (gs_53 N) (by decide) gr_53_34 rfl
theorem d_168_75 : am_code 168 75 = some (.iload_n 3, 1) := by decide +kernel
theorem s_168_75 (cl : am_C) (a0 a1 a2 a4 a5 : Option am_V) (x : Int) (st : List am_V) (h : am_H) : am_go0 cl 168 75 [a0, a1, a2, some (.inl x), a4, a5] st h = am_go0 cl 168 76 [a0, a1, a2, some (.inl x), a4, a5] (.inl x :: st) h := am_r am_m168 d_168_75 rfl
theorem d_168_76 : am_code 168 76 = some (.baload, 1) := by decide +kernel
theorem s_168_76 (cl : am_C) (ls : am_Ls) (i : Int) (k : Nat) (st : List am_V) (N : Nat) (I : Nat → Int → Int) (L : Nat → Int → Int64) : am_go0 cl 168 76 ls (.inl i :: .inr (.inr (some k)) :: st) (am_GS N, am_GR, I, L) = if am_inb (am_GS N) k 2 i = true then am_go0 cl 168 77 ls (.inl (I k i) :: st) (am_GS N, am_GR, I, L) else none := am_rAb am_m168 d_168_76 rfl k ls st i _ _ I L
theorem d_168_77 : am_code 168 77 = some (.ifCond .ne 18, 3) := by decide +kernel
theorem s_168_77 (cl : am_C) (ls : am_Ls) (x : Int) (st : List am_V) (h : am_H) : am_go0 cl 168 77 ls (.inl x :: st) h = if x = 0 then am_go0 cl 168 80 ls st h else am_go0 cl 168 95 ls st h := (am_rJ1 am_m168 d_168_77 (by decide) rfl x ls st h).trans (am_ifF ((am_cmp_ne x 0).trans Iff.rfl) _ _)
theorem d_168_80 : am_code 168 80 = some (.aload_n 0, 1) := by decide +kernel
theorem s_168_80 (cl : am_C) (a1 a2 a3 a4 a5 : Option am_V) (x : Nat) (st : List am_V) (h : am_H) : am_go0 cl 168 80 [some (.inr (.inr (some x))), a1, a2, a3, a4, a5] st h = am_go0 cl 168 81 [some (.inr (.inr (some x))), a1, a2, a3, a4, a5] (.inr (.inr (some x)) :: st) h := am_r am_m168 d_168_80 rfl
theorem d_168_81 : am_code 168 81 = some (.getfield 242, 3) := by decide +kernel
theorem s_168_81 (cl : am_C) (ls : am_Ls) (st : List am_V) (N : Nat) (I : Nat → Int → Int) (L : Nat → Int → Int64) : am_go0 cl 168 81 ls (.inr (.inr (some 53)) :: st) (am_GS N, am_GR, I, L) = am_go0 cl 168 84 ls (.inl (I 53 49) :: st) (am_GS N, am_GR, I, L) := am_rG0 am_m168 d_168_81 am_f9242 rfl (gs_53 N) (by decide) rfl
theorem d_168_84 : am_code 168 84 = some (.bipush 40, 2) := by decide +kernel
theorem s_168_84 (cl : am_C) (ls : am_Ls) (st : List am_V) (h : am_H) : am_go0 cl 168 84 ls st h = am_go0 cl 168 86 ls (.inl 40 :: st) h := am_rB am_m168 d_168_84 (by decide) rfl _ _ _
theorem d_168_86 : am_code 168 86 = some (.if_icmp .eq 9, 3) := by decide +kernel
theorem s_168_86 (cl : am_C) (ls : am_Ls) (x y : Int) (st : List am_V) (h : am_H) : am_go0 cl 168 86 ls (.inl y :: .inl x :: st) h = if x = y then am_go0 cl 168 95 ls st h else am_go0 cl 168 89 ls st h := (am_rJ0 am_m168 d_168_86 (by decide) rfl x y ls st h).trans (am_ifT (am_cmp_eq x y) _ _)
theorem d_168_89 : am_code 168 89 = some (.iload 5, 2) := by decide +kernel
theorem s_168_89 (cl : am_C) (a0 a1 a2 a3 a4 : Option am_V) (x : Int) (st : List am_V) (h : am_H) : am_go0 cl 168 89 [a0, a1, a2, a3, a4, some (.inl x)] st h = am_go0 cl 168 91 [a0, a1, a2, a3, a4, some (.inl x)] (.inl x :: st) h := am_r am_m168 d_168_89 rfl
theorem d_168_91 : am_code 168 91 = some (.iconst (-1), 1) := by decide +kernel
theorem s_168_91 (cl : am_C) (ls : am_Ls) (st : List am_V) (h : am_H) : am_go0 cl 168 91 ls st h = am_go0 cl 168 92 ls (.inl (-1) :: st) h := am_rK am_m168 d_168_91 (by decide) rfl _ _ _
theorem d_168_92 : am_code 168 92 = some (.if_icmp .ne 38, 3) := by decide +kernel
theorem s_168_92 (cl : am_C) (ls : am_Ls) (x y : Int) (st : List am_V) (h : am_H) : am_go0 cl 168 92 ls (.inl y :: .inl x :: st) h = if x = y then am_go0 cl 168 95 ls st h else am_go0 cl 168 130 ls st h := (am_rJ0 am_m168 d_168_92 (by decide) rfl x y ls st h).trans (am_ifF ((am_cmp_ne x y).trans Iff.rfl) _ _)
theorem d_168_95 : am_code 168 95 = some (.aload_n 0, 1) := by decide +kernel
theorem s_168_95 (cl : am_C) (a1 a2 a3 a4 a5 : Option am_V) (x : Nat) (st : List am_V) (h : am_H) : am_go0 cl 168 95 [some (.inr (.inr (some x))), a1, a2, a3, a4, a5] st h = am_go0 cl 168 96 [some (.inr (.inr (some x))), a1, a2, a3, a4, a5] (.inr (.inr (some x)) :: st) h := am_r am_m168 d_168_95 rfl
theorem d_168_96 : am_code 168 96 = some (.aload_n 0, 1) := by decide +kernel
theorem s_168_96 (cl : am_C) (a1 a2 a3 a4 a5 : Option am_V) (x : Nat) (st : List am_V) (h : am_H) : am_go0 cl 168 96 [some (.inr (.inr (some x))), a1, a2, a3, a4, a5] st h = am_go0 cl 168 97 [some (.inr (.inr (some x))), a1, a2, a3, a4, a5] (.inr (.inr (some x)) :: st) h := am_r am_m168 d_168_96 rfl
theorem d_168_97 : am_code 168 97 = some (.getfield 99, 3) := by decide +kernel
theorem s_168_97 (cl : am_C) (ls : am_Ls) (st : List am_V) (N : Nat) (I : Nat → Int → Int) (L : Nat → Int → Int64) : am_go0 cl 168 97 ls (.inr (.inr (some 53)) :: st) (am_GS N, am_GR, I, L) = am_go0 cl 168 100 ls (.inr (.inr (some 82)) :: st) (am_GS N, am_GR, I, L) := am_rG2 am_m168 d_168_97 am_f9099 rfl (gs_53 N) (by decide) gr_53_34 rfl
theorem d_168_100 : am_code 168 100 = some (.iload_n 3, 1) := by decide +kernel
theorem s_168_100 (cl : am_C) (a0 a1 a2 a4 a5 : Option am_V) (x : Int) (st : List am_V) (h : am_H) : am_go0 cl 168 100 [a0, a1, a2, some (.inl x), a4, a5] st h = am_go0 cl 168 101 [a0, a1, a2, some (.inl x), a4, a5] (.inl x :: st) h := am_r am_m168 d_168_100 rfl
theorem d_168_101 : am_code 168 101 = some (.baload, 1) := by decide +kernel
theorem s_168_101 (cl : am_C) (ls : am_Ls) (i : Int) (k : Nat) (st : List am_V) (N : Nat) (I : Nat → Int → Int) (L : Nat → Int → Int64) : am_go0 cl 168 101 ls (.inl i :: .inr (.inr (some k)) :: st) (am_GS N, am_GR, I, L) = if am_inb (am_GS N) k 2 i = true then am_go0 cl 168 102 ls (.inl (I k i) :: st) (am_GS N, am_GR, I, L) else none := am_rAb am_m168 d_168_101 rfl k ls st i _ _ I L
theorem d_168_102 : am_code 168 102 = some (.ifCond .eq 7, 3) := by decide +kernel
theorem s_168_102 (cl : am_C) (ls : am_Ls) (x : Int) (st : List am_V) (h : am_H) : am_go0 cl 168 102 ls (.inl x :: st) h = if x = 0 then am_go0 cl 168 109 ls st h else am_go0 cl 168 105 ls st h := (am_rJ1 am_m168 d_168_102 (by decide) rfl x ls st h).trans (am_ifT (am_cmp_eq x 0) _ _)
theorem d_168_105 : am_code 168 105 = some (.iconst 2, 1) := by decide +kernel
theorem s_168_105 (cl : am_C) (ls : am_Ls) (st : List am_V) (h : am_H) : am_go0 cl 168 105 ls st h = am_go0 cl 168 106 ls (.inl 2 :: st) h := am_rK am_m168 d_168_105 (by decide) rfl _ _ _
theorem d_168_106 : am_code 168 106 = some (.goto 18, 3) := by decide +kernel
theorem s_168_106 (cl : am_C) (ls : am_Ls) (st : List am_V) (h : am_H) : am_go0 cl 168 106 ls st h = am_go0 cl 168 124 ls st h := am_rGo am_m168 d_168_106 (by decide) _ _ _
theorem d_168_109 : am_code 168 109 = some (.aload_n 0, 1) := by decide +kernel
theorem s_168_109 (cl : am_C) (a1 a2 a3 a4 a5 : Option am_V) (x : Nat) (st : List am_V) (h : am_H) : am_go0 cl 168 109 [some (.inr (.inr (some x))), a1, a2, a3, a4, a5] st h = am_go0 cl 168 110 [some (.inr (.inr (some x))), a1, a2, a3, a4, a5] (.inr (.inr (some x)) :: st) h := am_r am_m168 d_168_109 rfl
theorem d_168_110 : am_code 168 110 = some (.getfield 242, 3) := by decide +kernel
theorem s_168_110 (cl : am_C) (ls : am_Ls) (st : List am_V) (N : Nat) (I : Nat → Int → Int) (L : Nat → Int → Int64) : am_go0 cl 168 110 ls (.inr (.inr (some 53)) :: st) (am_GS N, am_GR, I, L) = am_go0 cl 168 113 ls (.inl (I 53 49) :: st) (am_GS N, am_GR, I, L) := am_rG0 am_m168 d_168_110 am_f9242 rfl (gs_53 N) (by decide) rfl
theorem d_168_113 : am_code 168 113 = some (.bipush 40, 2) := by decide +kernel
theorem s_168_113 (cl : am_C) (ls : am_Ls) (st : List am_V) (h : am_H) : am_go0 cl 168 113 ls st h = am_go0 cl 168 115 ls (.inl 40 :: st) h := am_rB am_m168 d_168_113 (by decide) rfl _ _ _
theorem d_168_115 : am_code 168 115 = some (.if_icmp .ne 8, 3) := by decide +kernel
theorem s_168_115 (cl : am_C) (ls : am_Ls) (x y : Int) (st : List am_V) (h : am_H) : am_go0 cl 168 115 ls (.inl y :: .inl x :: st) h = if x = y then am_go0 cl 168 118 ls st h else am_go0 cl 168 123 ls st h := (am_rJ0 am_m168 d_168_115 (by decide) rfl x y ls st h).trans (am_ifF ((am_cmp_ne x y).trans Iff.rfl) _ _)
theorem d_168_118 : am_code 168 118 = some (.bipush 6, 2) := by decide +kernel
theorem s_168_118 (cl : am_C) (ls : am_Ls) (st : List am_V) (h : am_H) : am_go0 cl 168 118 ls st h = am_go0 cl 168 120 ls (.inl 6 :: st) h := am_rB am_m168 d_168_118 (by decide) rfl _ _ _
theorem d_168_120 : am_code 168 120 = some (.goto 4, 3) := by decide +kernel
theorem s_168_120 (cl : am_C) (ls : am_Ls) (st : List am_V) (h : am_H) : am_go0 cl 168 120 ls st h = am_go0 cl 168 124 ls st h := am_rGo am_m168 d_168_120 (by decide) _ _ _
theorem d_168_123 : am_code 168 123 = some (.iconst 1, 1) := by decide +kernel
theorem s_168_123 (cl : am_C) (ls : am_Ls) (st : List am_V) (h : am_H) : am_go0 cl 168 123 ls st h = am_go0 cl 168 124 ls (.inl 1 :: st) h := am_rK am_m168 d_168_123 (by decide) rfl _ _ _
theorem d_168_124 : am_code 168 124 = some (.iload_n 1, 1) := by decide +kernel
theorem s_168_124 (cl : am_C) (a0 a2 a3 a4 a5 : Option am_V) (x : Int) (st : List am_V) (h : am_H) : am_go0 cl 168 124 [a0, some (.inl x), a2, a3, a4, a5] st h = am_go0 cl 168 125 [a0, some (.inl x), a2, a3, a4, a5] (.inl x :: st) h := am_r am_m168 d_168_124 rfl
theorem d_168_125 : am_code 168 125 = some (.iload_n 2, 1) := by decide +kernel
theorem s_168_125 (cl : am_C) (a0 a1 a3 a4 a5 : Option am_V) (x : Int) (st : List am_V) (h : am_H) : am_go0 cl 168 125 [a0, a1, some (.inl x), a3, a4, a5] st h = am_go0 cl 168 126 [a0, a1, some (.inl x), a3, a4, a5] (.inl x :: st) h := am_r am_m168 d_168_125 rfl
theorem d_168_126 : am_code 168 126 = some (.invokevirtual 245, 3) := by decide +kernel
theorem s_168_126 (cl : am_C) (ls : am_Ls) (x0 : Int) (x1 : Int) (x2 : Int) (N : Nat) (I : Nat → Int → Int) (L : Nat → Int → Int64) : am_go0 cl 168 126 ls [.inl x2, .inl x1, .inl x0, .inr (.inr (some 53))] (am_GS N, am_GR, I, L) = am_bd (cl 170 [.inr (.inr (some 53)), .inl x0, .inl x1, .inl x2] (am_GS N, am_GR, I, L)) (fun v h2 => am_go0 cl 168 129 ls (v.toList ++ []) h2) := am_rV am_m168 d_168_126 am_k9245 rfl am_m170 (gs_53 N) (by decide) (Nat.le_of_ble_eq_true rfl) rfl ls
theorem d_168_129 : am_code 168 129 = some (.return_, 1) := by decide +kernel
theorem s_168_129 (cl : am_C) (ls : am_Ls) (h : am_H) : am_go0 cl 168 129 ls [] h = some (none, h) := am_rE am_m168 d_168_129 rfl
theorem d_168_130 : am_code 168 130 = some (.aload_n 0, 1) := by decide +kernel
theorem s_168_130 (cl : am_C) (a1 a2 a3 a4 a5 : Option am_V) (x : Nat) (st : List am_V) (h : am_H) : am_go0 cl 168 130 [some (.inr (.inr (some x))), a1, a2, a3, a4, a5] st h = am_go0 cl 168 131 [some (.inr (.inr (some x))), a1, a2, a3, a4, a5] (.inr (.inr (some x)) :: st) h := am_r am_m168 d_168_130 rfl
theorem d_168_131 : am_code 168 131 = some (.getfield 99, 3) := by decide +kernel
theorem s_168_131 (cl : am_C) (ls : am_Ls) (st : List am_V) (N : Nat) (I : Nat → Int → Int) (L : Nat → Int → Int64) : am_go0 cl 168 131 ls (.inr (.inr (some 53)) :: st) (am_GS N, am_GR, I, L) = am_go0 cl 168 134 ls (.inr (.inr (some 82)) :: st) (am_GS N, am_GR, I, L) := am_rG2 am_m168 d_168_131 am_f9099 rfl (gs_53 N) (by decide) gr_53_34 rfl
theorem d_168_134 : am_code 168 134 = some (.iload_n 3, 1) := by decide +kernel
theorem s_168_134 (cl : am_C) (a0 a1 a2 a4 a5 : Option am_V) (x : Int) (st : List am_V) (h : am_H) : am_go0 cl 168 134 [a0, a1, a2, some (.inl x), a4, a5] st h = am_go0 cl 168 135 [a0, a1, a2, some (.inl x), a4, a5] (.inl x :: st) h := am_r am_m168 d_168_134 rfl
theorem d_168_135 : am_code 168 135 = some (.iconst 1, 1) := by decide +kernel
theorem s_168_135 (cl : am_C) (ls : am_Ls) (st : List am_V) (h : am_H) : am_go0 cl 168 135 ls st h = am_go0 cl 168 136 ls (.inl 1 :: st) h := am_rK am_m168 d_168_135 (by decide) rfl _ _ _
theorem d_168_136 : am_code 168 136 = some (.bastore, 1) := by decide +kernel
theorem s_168_136 (cl : am_C) (ls : am_Ls) (i : Int) (v : Int) (k : Nat) (st : List am_V) (N : Nat) (I : Nat → Int → Int) (L : Nat → Int → Int64) : am_go0 cl 168 136 ls (.inl v :: .inl i :: .inr (.inr (some k)) :: st) (am_GS N, am_GR, I, L) = if am_inb (am_GS N) k 2 i = true ∧ (v = 0 ∨ v = 1) then am_go0 cl 168 137 ls st (am_GS N, am_GR, am_uI I k i v, L) else none := am_rSb am_m168 d_168_136 rfl k ls st i v _ _ I L
theorem d_168_137 : am_code 168 137 = some (.aload_n 0, 1) := by decide +kernel
theorem s_168_137 (cl : am_C) (a1 a2 a3 a4 a5 : Option am_V) (x : Nat) (st : List am_V) (h : am_H) : am_go0 cl 168 137 [some (.inr (.inr (some x))), a1, a2, a3, a4, a5] st h = am_go0 cl 168 138 [some (.inr (.inr (some x))), a1, a2, a3, a4, a5] (.inr (.inr (some x)) :: st) h := am_r am_m168 d_168_137 rfl
theorem d_168_138 : am_code 168 138 = some (.getfield 106, 3) := by decide +kernel
theorem s_168_138 (cl : am_C) (ls : am_Ls) (st : List am_V) (N : Nat) (I : Nat → Int → Int) (L : Nat → Int → Int64) : am_go0 cl 168 138 ls (.inr (.inr (some 53)) :: st) (am_GS N, am_GR, I, L) = am_go0 cl 168 141 ls (.inr (.inr (some 84)) :: st) (am_GS N, am_GR, I, L) := am_rG2 am_m168 d_168_138 am_f9106 rfl (gs_53 N) (by decide) gr_53_36 rfl
theorem d_168_141 : am_code 168 141 = some (.iload_n 3, 1) := by decide +kernel
theorem s_168_141 (cl : am_C) (a0 a1 a2 a4 a5 : Option am_V) (x : Int) (st : List am_V) (h : am_H) : am_go0 cl 168 141 [a0, a1, a2, some (.inl x), a4, a5] st h = am_go0 cl 168 142 [a0, a1, a2, some (.inl x), a4, a5] (.inl x :: st) h := am_r am_m168 d_168_141 rfl
theorem d_168_142 : am_code 168 142 = some (.dup2, 1) := by decide +kernel
theorem s_168_142 (cl : am_C) (ls : am_Ls) (x : Int) (y : Nat) (st : List am_V) (h : am_H) : am_go0 cl 168 142 ls (.inl x :: .inr (.inr (some y)) :: st) h = am_go0 cl 168 143 ls (.inl x :: .inr (.inr (some y)) :: .inl x :: .inr (.inr (some y)) :: st) h := am_r am_m168 d_168_142 rfl
theorem d_168_143 : am_code 168 143 = some (.iaload, 1) := by decide +kernel
theorem s_168_143 (cl : am_C) (ls : am_Ls) (i : Int) (k : Nat) (st : List am_V) (N : Nat) (I : Nat → Int → Int) (L : Nat → Int → Int64) : am_go0 cl 168 143 ls (.inl i :: .inr (.inr (some k)) :: st) (am_GS N, am_GR, I, L) = if am_inb (am_GS N) k 0 i = true then am_go0 cl 168 144 ls (.inl (I k i) :: st) (am_GS N, am_GR, I, L) else none := am_rA am_m168 d_168_143 (by decide) rfl k ls st i _ _ I L
theorem d_168_144 : am_code 168 144 = some (.iconst 1, 1) := by decide +kernel
theorem s_168_144 (cl : am_C) (ls : am_Ls) (st : List am_V) (h : am_H) : am_go0 cl 168 144 ls st h = am_go0 cl 168 145 ls (.inl 1 :: st) h := am_rK am_m168 d_168_144 (by decide) rfl _ _ _
theorem d_168_145 : am_code 168 145 = some (.iadd, 1) := by decide +kernel
theorem s_168_145 (cl : am_C) (ls : am_Ls) (x y : Int) (st : List am_V) (h : am_H) : am_go0 cl 168 145 ls (.inl y :: .inl x :: st) h = am_go0 cl 168 146 ls (.inl (am_wr (x + y)) :: st) h := am_r am_m168 d_168_145 rfl
theorem d_168_146 : am_code 168 146 = some (.iastore, 1) := by decide +kernel
theorem s_168_146 (cl : am_C) (ls : am_Ls) (i : Int) (v : Int) (k : Nat) (st : List am_V) (N : Nat) (I : Nat → Int → Int) (L : Nat → Int → Int64) : am_go0 cl 168 146 ls (.inl v :: .inl i :: .inr (.inr (some k)) :: st) (am_GS N, am_GR, I, L) = if am_inb (am_GS N) k 0 i = true then am_go0 cl 168 147 ls st (am_GS N, am_GR, am_uI I k i v, L) else none := am_rS am_m168 d_168_146 rfl k ls st i v _ _ I L
theorem d_168_147 : am_code 168 147 = some (.aload_n 0, 1) := by decide +kernel
theorem s_168_147 (cl : am_C) (a1 a2 a3 a4 a5 : Option am_V) (x : Nat) (st : List am_V) (h : am_H) : am_go0 cl 168 147 [some (.inr (.inr (some x))), a1, a2, a3, a4, a5] st h = am_go0 cl 168 148 [some (.inr (.inr (some x))), a1, a2, a3, a4, a5] (.inr (.inr (some x)) :: st) h := am_r am_m168 d_168_147 rfl
theorem d_168_148 : am_code 168 148 = some (.getfield 130, 3) := by decide +kernel
theorem s_168_148 (cl : am_C) (ls : am_Ls) (st : List am_V) (N : Nat) (I : Nat → Int → Int) (L : Nat → Int → Int64) : am_go0 cl 168 148 ls (.inr (.inr (some 53)) :: st) (am_GS N, am_GR, I, L) = am_go0 cl 168 151 ls (.inr (.inr (some 90)) :: st) (am_GS N, am_GR, I, L) := am_rG2 am_m168 d_168_148 am_f9130 rfl (gs_53 N) (by decide) gr_53_46 rfl
theorem d_168_151 : am_code 168 151 = some (.aload_n 0, 1) := by decide +kernel
theorem s_168_151 (cl : am_C) (a1 a2 a3 a4 a5 : Option am_V) (x : Nat) (st : List am_V) (h : am_H) : am_go0 cl 168 151 [some (.inr (.inr (some x))), a1, a2, a3, a4, a5] st h = am_go0 cl 168 152 [some (.inr (.inr (some x))), a1, a2, a3, a4, a5] (.inr (.inr (some x)) :: st) h := am_r am_m168 d_168_151 rfl
theorem d_168_152 : am_code 168 152 = some (.getfield 242, 3) := by decide +kernel
theorem s_168_152 (cl : am_C) (ls : am_Ls) (st : List am_V) (N : Nat) (I : Nat → Int → Int) (L : Nat → Int → Int64) : am_go0 cl 168 152 ls (.inr (.inr (some 53)) :: st) (am_GS N, am_GR, I, L) = am_go0 cl 168 155 ls (.inl (I 53 49) :: st) (am_GS N, am_GR, I, L) := am_rG0 am_m168 d_168_152 am_f9242 rfl (gs_53 N) (by decide) rfl
theorem d_168_155 : am_code 168 155 = some (.iload_n 1, 1) := by decide +kernel
theorem s_168_155 (cl : am_C) (a0 a2 a3 a4 a5 : Option am_V) (x : Int) (st : List am_V) (h : am_H) : am_go0 cl 168 155 [a0, some (.inl x), a2, a3, a4, a5] st h = am_go0 cl 168 156 [a0, some (.inl x), a2, a3, a4, a5] (.inl x :: st) h := am_r am_m168 d_168_155 rfl
theorem d_168_156 : am_code 168 156 = some (.iastore, 1) := by decide +kernel
theorem s_168_156 (cl : am_C) (ls : am_Ls) (i : Int) (v : Int) (k : Nat) (st : List am_V) (N : Nat) (I : Nat → Int → Int) (L : Nat → Int → Int64) : am_go0 cl 168 156 ls (.inl v :: .inl i :: .inr (.inr (some k)) :: st) (am_GS N, am_GR, I, L) = if am_inb (am_GS N) k 0 i = true then am_go0 cl 168 157 ls st (am_GS N, am_GR, am_uI I k i v, L) else none := am_rS am_m168 d_168_156 rfl k ls st i v _ _ I L
theorem d_168_157 : am_code 168 157 = some (.aload_n 0, 1) := by decide +kernel
theorem s_168_157 (cl : am_C) (a1 a2 a3 a4 a5 : Option am_V) (x : Nat) (st : List am_V) (h : am_H) : am_go0 cl 168 157 [some (.inr (.inr (some x))), a1, a2, a3, a4, a5] st h = am_go0 cl 168 158 [some (.inr (.inr (some x))), a1, a2, a3, a4, a5] (.inr (.inr (some x)) :: st) h := am_r am_m168 d_168_157 rfl
theorem d_168_158 : am_code 168 158 = some (.getfield 133, 3) := by decide +kernel
theorem s_168_158 (cl : am_C) (ls : am_Ls) (st : List am_V) (N : Nat) (I : Nat → Int → Int) (L : Nat → Int → Int64) : am_go0 cl 168 158 ls (.inr (.inr (some 53)) :: st) (am_GS N, am_GR, I, L) = am_go0 cl 168 161 ls (.inr (.inr (some 91)) :: st) (am_GS N, am_GR, I, L) := am_rG2 am_m168 d_168_158 am_f9133 rfl (gs_53 N) (by decide) gr_53_47 rfl
theorem d_168_161 : am_code 168 161 = some (.aload_n 0, 1) := by decide +kernel
theorem s_168_161 (cl : am_C) (a1 a2 a3 a4 a5 : Option am_V) (x : Nat) (st : List am_V) (h : am_H) : am_go0 cl 168 161 [some (.inr (.inr (some x))), a1, a2, a3, a4, a5] st h = am_go0 cl 168 162 [some (.inr (.inr (some x))), a1, a2, a3, a4, a5] (.inr (.inr (some x)) :: st) h := am_r am_m168 d_168_161 rfl
theorem d_168_162 : am_code 168 162 = some (.getfield 242, 3) := by decide +kernel
theorem s_168_162 (cl : am_C) (ls : am_Ls) (st : List am_V) (N : Nat) (I : Nat → Int → Int) (L : Nat → Int → Int64) : am_go0 cl 168 162 ls (.inr (.inr (some 53)) :: st) (am_GS N, am_GR, I, L) = am_go0 cl 168 165 ls (.inl (I 53 49) :: st) (am_GS N, am_GR, I, L) := am_rG0 am_m168 d_168_162 am_f9242 rfl (gs_53 N) (by decide) rfl
theorem d_168_165 : am_code 168 165 = some (.iload_n 2, 1) := by decide +kernel
theorem s_168_165 (cl : am_C) (a0 a1 a3 a4 a5 : Option am_V) (x : Int) (st : List am_V) (h : am_H) : am_go0 cl 168 165 [a0, a1, some (.inl x), a3, a4, a5] st h = am_go0 cl 168 166 [a0, a1, some (.inl x), a3, a4, a5] (.inl x :: st) h := am_r am_m168 d_168_165 rfl
theorem d_168_166 : am_code 168 166 = some (.iastore, 1) := by decide +kernel
theorem s_168_166 (cl : am_C) (ls : am_Ls) (i : Int) (v : Int) (k : Nat) (st : List am_V) (N : Nat) (I : Nat → Int → Int) (L : Nat → Int → Int64) : am_go0 cl 168 166 ls (.inl v :: .inl i :: .inr (.inr (some k)) :: st) (am_GS N, am_GR, I, L) = if am_inb (am_GS N) k 0 i = true then am_go0 cl 168 167 ls st (am_GS N, am_GR, am_uI I k i v, L) else none := am_rS am_m168 d_168_166 rfl k ls st i v _ _ I L
theorem d_168_167 : am_code 168 167 = some (.aload_n 0, 1) := by decide +kernel
theorem s_168_167 (cl : am_C) (a1 a2 a3 a4 a5 : Option am_V) (x : Nat) (st : List am_V) (h : am_H) : am_go0 cl 168 167 [some (.inr (.inr (some x))), a1, a2, a3, a4, a5] st h = am_go0 cl 168 168 [some (.inr (.inr (some x))), a1, a2, a3, a4, a5] (.inr (.inr (some x)) :: st) h := am_r am_m168 d_168_167 rfl
theorem d_168_168 : am_code 168 168 = some (.getfield 136, 3) := by decide +kernel
theorem s_168_168 (cl : am_C) (ls : am_Ls) (st : List am_V) (N : Nat) (I : Nat → Int → Int) (L : Nat → Int → Int64) : am_go0 cl 168 168 ls (.inr (.inr (some 53)) :: st) (am_GS N, am_GR, I, L) = am_go0 cl 168 171 ls (.inr (.inr (some 92)) :: st) (am_GS N, am_GR, I, L) := am_rG2 am_m168 d_168_168 am_f9136 rfl (gs_53 N) (by decide) gr_53_48 rfl
theorem d_168_171 : am_code 168 171 = some (.aload_n 0, 1) := by decide +kernel
theorem s_168_171 (cl : am_C) (a1 a2 a3 a4 a5 : Option am_V) (x : Nat) (st : List am_V) (h : am_H) : am_go0 cl 168 171 [some (.inr (.inr (some x))), a1, a2, a3, a4, a5] st h = am_go0 cl 168 172 [some (.inr (.inr (some x))), a1, a2, a3, a4, a5] (.inr (.inr (some x)) :: st) h := am_r am_m168 d_168_171 rfl
theorem d_168_172 : am_code 168 172 = some (.getfield 242, 3) := by decide +kernel
theorem s_168_172 (cl : am_C) (ls : am_Ls) (st : List am_V) (N : Nat) (I : Nat → Int → Int) (L : Nat → Int → Int64) : am_go0 cl 168 172 ls (.inr (.inr (some 53)) :: st) (am_GS N, am_GR, I, L) = am_go0 cl 168 175 ls (.inl (I 53 49) :: st) (am_GS N, am_GR, I, L) := am_rG0 am_m168 d_168_172 am_f9242 rfl (gs_53 N) (by decide) rfl
theorem d_168_175 : am_code 168 175 = some (.iload 4, 2) := by decide +kernel
theorem s_168_175 (cl : am_C) (a0 a1 a2 a3 a5 : Option am_V) (x : Int) (st : List am_V) (h : am_H) : am_go0 cl 168 175 [a0, a1, a2, a3, some (.inl x), a5] st h = am_go0 cl 168 177 [a0, a1, a2, a3, some (.inl x), a5] (.inl x :: st) h := am_r am_m168 d_168_175 rfl
theorem d_168_177 : am_code 168 177 = some (.iconst (-1), 1) := by decide +kernel
theorem s_168_177 (cl : am_C) (ls : am_Ls) (st : List am_V) (h : am_H) : am_go0 cl 168 177 ls st h = am_go0 cl 168 178 ls (.inl (-1) :: st) h := am_rK am_m168 d_168_177 (by decide) rfl _ _ _
theorem d_168_178 : am_code 168 178 = some (.if_icmp .ne 7, 3) := by decide +kernel
theorem s_168_178 (cl : am_C) (ls : am_Ls) (x y : Int) (st : List am_V) (h : am_H) : am_go0 cl 168 178 ls (.inl y :: .inl x :: st) h = if x = y then am_go0 cl 168 181 ls st h else am_go0 cl 168 185 ls st h := (am_rJ0 am_m168 d_168_178 (by decide) rfl x y ls st h).trans (am_ifF ((am_cmp_ne x y).trans Iff.rfl) _ _)
theorem d_168_181 : am_code 168 181 = some (.iconst 1, 1) := by decide +kernel
theorem s_168_181 (cl : am_C) (ls : am_Ls) (st : List am_V) (h : am_H) : am_go0 cl 168 181 ls st h = am_go0 cl 168 182 ls (.inl 1 :: st) h := am_rK am_m168 d_168_181 (by decide) rfl _ _ _
theorem d_168_182 : am_code 168 182 = some (.goto 4, 3) := by decide +kernel
theorem s_168_182 (cl : am_C) (ls : am_Ls) (st : List am_V) (h : am_H) : am_go0 cl 168 182 ls st h = am_go0 cl 168 186 ls st h := am_rGo am_m168 d_168_182 (by decide) _ _ _
theorem d_168_185 : am_code 168 185 = some (.iconst 0, 1) := by decide +kernel
theorem s_168_185 (cl : am_C) (ls : am_Ls) (st : List am_V) (h : am_H) : am_go0 cl 168 185 ls st h = am_go0 cl 168 186 ls (.inl 0 :: st) h := am_rK am_m168 d_168_185 (by decide) rfl _ _ _
theorem d_168_186 : am_code 168 186 = some (.bastore, 1) := by decide +kernel
theorem s_168_186 (cl : am_C) (ls : am_Ls) (i : Int) (v : Int) (k : Nat) (st : List am_V) (N : Nat) (I : Nat → Int → Int) (L : Nat → Int → Int64) : am_go0 cl 168 186 ls (.inl v :: .inl i :: .inr (.inr (some k)) :: st) (am_GS N, am_GR, I, L) = if am_inb (am_GS N) k 2 i = true ∧ (v = 0 ∨ v = 1) then am_go0 cl 168 187 ls st (am_GS N, am_GR, am_uI I k i v, L) else none := am_rSb am_m168 d_168_186 rfl k ls st i v _ _ I L
theorem d_168_187 : am_code 168 187 = some (.aload_n 0, 1) := by decide +kernel
theorem s_168_187 (cl : am_C) (a1 a2 a3 a4 a5 : Option am_V) (x : Nat) (st : List am_V) (h : am_H) : am_go0 cl 168 187 [some (.inr (.inr (some x))), a1, a2, a3, a4, a5] st h = am_go0 cl 168 188 [some (.inr (.inr (some x))), a1, a2, a3, a4, a5] (.inr (.inr (some x)) :: st) h := am_r am_m168 d_168_187 rfl
theorem d_168_188 : am_code 168 188 = some (.dup, 1) := by decide +kernel
theorem s_168_188 (cl : am_C) (ls : am_Ls) (x : Nat) (st : List am_V) (h : am_H) : am_go0 cl 168 188 ls (.inr (.inr (some x)) :: st) h = am_go0 cl 168 189 ls (.inr (.inr (some x)) :: .inr (.inr (some x)) :: st) h := am_r am_m168 d_168_188 rfl
theorem d_168_189 : am_code 168 189 = some (.getfield 242, 3) := by decide +kernel
theorem s_168_189 (cl : am_C) (ls : am_Ls) (st : List am_V) (N : Nat) (I : Nat → Int → Int) (L : Nat → Int → Int64) : am_go0 cl 168 189 ls (.inr (.inr (some 53)) :: st) (am_GS N, am_GR, I, L) = am_go0 cl 168 192 ls (.inl (I 53 49) :: st) (am_GS N, am_GR, I, L) := am_rG0 am_m168 d_168_189 am_f9242 rfl (gs_53 N) (by decide) rfl
theorem d_168_192 : am_code 168 192 = some (.iconst 1, 1) := by decide +kernel
theorem s_168_192 (cl : am_C) (ls : am_Ls) (st : List am_V) (h : am_H) : am_go0 cl 168 192 ls st h = am_go0 cl 168 193 ls (.inl 1 :: st) h := am_rK am_m168 d_168_192 (by decide) rfl _ _ _
theorem d_168_193 : am_code 168 193 = some (.iadd, 1) := by decide +kernel
theorem s_168_193 (cl : am_C) (ls : am_Ls) (x y : Int) (st : List am_V) (h : am_H) : am_go0 cl 168 193 ls (.inl y :: .inl x :: st) h = am_go0 cl 168 194 ls (.inl (am_wr (x + y)) :: st) h := am_r am_m168 d_168_193 rfl
theorem d_168_194 : am_code 168 194 = some (.putfield 242, 3) := by decide +kernel
theorem s_168_194 (cl : am_C) (ls : am_Ls) (v : Int) (st : List am_V) (N : Nat) (I : Nat → Int → Int) (L : Nat → Int → Int64) : am_go0 cl 168 194 ls (.inl v :: .inr (.inr (some 53)) :: st) (am_GS N, am_GR, I, L) = am_go0 cl 168 197 ls st (am_GS N, am_GR, am_uI I 53 49 v, L) := am_rP0 am_m168 d_168_194 am_f9242 rfl (gs_53 N) (by decide) rfl
theorem d_168_197 : am_code 168 197 = some (.aload_n 0, 1) := by decide +kernel
theorem s_168_197 (cl : am_C) (a1 a2 a3 a4 a5 : Option am_V) (x : Nat) (st : List am_V) (h : am_H) : am_go0 cl 168 197 [some (.inr (.inr (some x))), a1, a2, a3, a4, a5] st h = am_go0 cl 168 198 [some (.inr (.inr (some x))), a1, a2, a3, a4, a5] (.inr (.inr (some x)) :: st) h := am_r am_m168 d_168_197 rfl
theorem d_168_198 : am_code 168 198 = some (.sipush 300, 3) := by decide +kernel
theorem s_168_198 (cl : am_C) (ls : am_Ls) (st : List am_V) (h : am_H) : am_go0 cl 168 198 ls st h = am_go0 cl 168 201 ls (.inl 300 :: st) h := am_rBs am_m168 d_168_198 (by decide) rfl _ _ _
theorem d_168_201 : am_code 168 201 = some (.invokevirtual 249, 3) := by decide +kernel
theorem s_168_201 (cl : am_C) (ls : am_Ls) (x0 : Int) (N : Nat) (I : Nat → Int → Int) (L : Nat → Int → Int64) : am_go0 cl 168 201 ls [.inl x0, .inr (.inr (some 53))] (am_GS N, am_GR, I, L) = am_bd (cl 171 [.inr (.inr (some 53)), .inl x0] (am_GS N, am_GR, I, L)) (fun v h2 => am_go0 cl 168 204 ls (v.toList ++ []) h2) := am_rV am_m168 d_168_201 am_k9249 rfl am_m171 (gs_53 N) (by decide) (Nat.le_of_ble_eq_true rfl) rfl ls
theorem d_168_204 : am_code 168 204 = some (.aload_n 0, 1) := by decide +kernel
theorem s_168_204 (cl : am_C) (a1 a2 a3 a4 a5 : Option am_V) (x : Nat) (st : List am_V) (h : am_H) : am_go0 cl 168 204 [some (.inr (.inr (some x))), a1, a2, a3, a4, a5] st h = am_go0 cl 168 205 [some (.inr (.inr (some x))), a1, a2, a3, a4, a5] (.inr (.inr (some x)) :: st) h := am_r am_m168 d_168_204 rfl
theorem d_168_205 : am_code 168 205 = some (.iload 5, 2) := by decide +kernel
theorem s_168_205 (cl : am_C) (a0 a1 a2 a3 a4 : Option am_V) (x : Int) (st : List am_V) (h : am_H) : am_go0 cl 168 205 [a0, a1, a2, a3, a4, some (.inl x)] st h = am_go0 cl 168 207 [a0, a1, a2, a3, a4, some (.inl x)] (.inl x :: st) h := am_r am_m168 d_168_205 rfl
theorem d_168_207 : am_code 168 207 = some (.invokevirtual 249, 3) := by decide +kernel
theorem s_168_207 (cl : am_C) (ls : am_Ls) (x0 : Int) (N : Nat) (I : Nat → Int → Int) (L : Nat → Int → Int64) : am_go0 cl 168 207 ls [.inl x0, .inr (.inr (some 53))] (am_GS N, am_GR, I, L) = am_bd (cl 171 [.inr (.inr (some 53)), .inl x0] (am_GS N, am_GR, I, L)) (fun v h2 => am_go0 cl 168 210 ls (v.toList ++ []) h2) := am_rV am_m168 d_168_207 am_k9249 rfl am_m171 (gs_53 N) (by decide) (Nat.le_of_ble_eq_true rfl) rfl ls
theorem d_168_210 : am_code 168 210 = some (.return_, 1) := by decide +kernel
theorem s_168_210 (cl : am_C) (ls : am_Ls) (h : am_H) : am_go0 cl 168 210 ls [] h = some (none, h) := am_rE am_m168 d_168_210 rfl
theorem e_168 (d : Nat) (t : Nat) (p0 : Int) (p1 : Int) (h : am_H) : am_call (d + 1) 168 [.inr (.inr (some t)), .inl p0, .inl p1] h = am_go0 (am_call d) 168 0 [some (.inr (.inr (some t))), some (.inl p0), some (.inl p1), none, none, none] [] h := am_callE am_m168 (Nat.le_of_ble_eq_true rfl) rfl
theorem d_169_0 : am_code 169 0 = some (.aload_n 0, 1) := by decide +kernel
theorem s_169_0 (cl : am_C) (a1 a2 : Option am_V) (x : Nat) (st : List am_V) (h : am_H) : am_go0 cl 169 0 [some (.inr (.inr (some x))), a1, a2] st h = am_go0 cl 169 1 [some (.inr (.inr (some x))), a1, a2] (.inr (.inr (some x)) :: st) h := am_r am_m169 d_169_0 rfl
theorem d_169_1 : am_code 169 1 = some (.getfield 127, 3) := by decide +kernel
theorem s_169_1 (cl : am_C) (ls : am_Ls) (st : List am_V) (N : Nat) (I : Nat → Int → Int) (L : Nat → Int → Int64) : am_go0 cl 169 1 ls (.inr (.inr (some 53)) :: st) (am_GS N, am_GR, I, L) = am_go0 cl 169 4 ls (.inr (.inr (some 89)) :: st) (am_GS N, am_GR, I, L) := am_rG2 am_m169 d_169_1 am_f9127 rfl (gs_53 N) (by decide) gr_53_44 rfl
theorem d_169_4 : am_code 169 4 = some (.aload_n 0, 1) := by decide +kernel
theorem s_169_4 (cl : am_C) (a1 a2 : Option am_V) (x : Nat) (st : List am_V) (h : am_H) : am_go0 cl 169 4 [some (.inr (.inr (some x))), a1, a2] st h = am_go0 cl 169 5 [some (.inr (.inr (some x))), a1, a2] (.inr (.inr (some x)) :: st) h := am_r am_m169 d_169_4 rfl
theorem d_169_5 : am_code 169 5 = some (.getfield 232, 3) := by decide +kernel
theorem s_169_5 (cl : am_C) (ls : am_Ls) (st : List am_V) (N : Nat) (I : Nat → Int → Int) (L : Nat → Int → Int64) : am_go0 cl 169 5 ls (.inr (.inr (some 53)) :: st) (am_GS N, am_GR, I, L) = am_go0 cl 169 8 ls (.inl (I 53 45) :: st) (am_GS N, am_GR, I, L) := am_rG0 am_m169 d_169_5 am_f9232 rfl (gs_53 N) (by decide) rfl
theorem d_169_8 : am_code 169 8 = some (.lload_n 1, 1) := by decide +kernel
theorem s_169_8 (cl : am_C) (a0 a2 : Option am_V) (x : Int64) (st : List am_V) (h : am_H) : am_go0 cl 169 8 [a0, some (.inr (.inl x)), a2] st h = am_go0 cl 169 9 [a0, some (.inr (.inl x)), a2] (.inr (.inl x) :: st) h := am_r am_m169 d_169_8 rfl
theorem d_169_9 : am_code 169 9 = some (.lastore, 1) := by decide +kernel
theorem s_169_9 (cl : am_C) (ls : am_Ls) (i : Int) (v : Int64) (k : Nat) (st : List am_V) (N : Nat) (I : Nat → Int → Int) (L : Nat → Int → Int64) : am_go0 cl 169 9 ls (.inr (.inl v) :: .inl i :: .inr (.inr (some k)) :: st) (am_GS N, am_GR, I, L) = if am_inb (am_GS N) k 1 i = true then am_go0 cl 169 10 ls st (am_GS N, am_GR, I, am_uL L k i v) else none := am_rSl am_m169 d_169_9 rfl k ls st i v _ _ I L
theorem d_169_10 : am_code 169 10 = some (.aload_n 0, 1) := by decide +kernel
theorem s_169_10 (cl : am_C) (a1 a2 : Option am_V) (x : Nat) (st : List am_V) (h : am_H) : am_go0 cl 169 10 [some (.inr (.inr (some x))), a1, a2] st h = am_go0 cl 169 11 [some (.inr (.inr (some x))), a1, a2] (.inr (.inr (some x)) :: st) h := am_r am_m169 d_169_10 rfl
theorem d_169_11 : am_code 169 11 = some (.dup, 1) := by decide +kernel
theorem s_169_11 (cl : am_C) (ls : am_Ls) (x : Nat) (st : List am_V) (h : am_H) : am_go0 cl 169 11 ls (.inr (.inr (some x)) :: st) h = am_go0 cl 169 12 ls (.inr (.inr (some x)) :: .inr (.inr (some x)) :: st) h := am_r am_m169 d_169_11 rfl
theorem d_169_12 : am_code 169 12 = some (.getfield 232, 3) := by decide +kernel
theorem s_169_12 (cl : am_C) (ls : am_Ls) (st : List am_V) (N : Nat) (I : Nat → Int → Int) (L : Nat → Int → Int64) : am_go0 cl 169 12 ls (.inr (.inr (some 53)) :: st) (am_GS N, am_GR, I, L) = am_go0 cl 169 15 ls (.inl (I 53 45) :: st) (am_GS N, am_GR, I, L) := am_rG0 am_m169 d_169_12 am_f9232 rfl (gs_53 N) (by decide) rfl
theorem d_169_15 : am_code 169 15 = some (.iconst 1, 1) := by decide +kernel
theorem s_169_15 (cl : am_C) (ls : am_Ls) (st : List am_V) (h : am_H) : am_go0 cl 169 15 ls st h = am_go0 cl 169 16 ls (.inl 1 :: st) h := am_rK am_m169 d_169_15 (by decide) rfl _ _ _
theorem d_169_16 : am_code 169 16 = some (.iadd, 1) := by decide +kernel
theorem s_169_16 (cl : am_C) (ls : am_Ls) (x y : Int) (st : List am_V) (h : am_H) : am_go0 cl 169 16 ls (.inl y :: .inl x :: st) h = am_go0 cl 169 17 ls (.inl (am_wr (x + y)) :: st) h := am_r am_m169 d_169_16 rfl
theorem d_169_17 : am_code 169 17 = some (.putfield 232, 3) := by decide +kernel
theorem s_169_17 (cl : am_C) (ls : am_Ls) (v : Int) (st : List am_V) (N : Nat) (I : Nat → Int → Int) (L : Nat → Int → Int64) : am_go0 cl 169 17 ls (.inl v :: .inr (.inr (some 53)) :: st) (am_GS N, am_GR, I, L) = am_go0 cl 169 20 ls st (am_GS N, am_GR, am_uI I 53 45 v, L) := am_rP0 am_m169 d_169_17 am_f9232 rfl (gs_53 N) (by decide) rfl
theorem d_169_20 : am_code 169 20 = some (.return_, 1) := by decide +kernel
theorem s_169_20 (cl : am_C) (ls : am_Ls) (h : am_H) : am_go0 cl 169 20 ls [] h = some (none, h) := am_rE am_m169 d_169_20 rfl
theorem e_169 (d : Nat) (t : Nat) (p0 : Int64) (h : am_H) : am_call (d + 1) 169 [.inr (.inr (some t)), .inr (.inl p0)] h = am_go0 (am_call d) 169 0 [some (.inr (.inr (some t))), some (.inr (.inl p0)), none] [] h := am_callE am_m169 (Nat.le_of_ble_eq_true rfl) rfl
theorem d_170_0 : am_code 170 0 = some (.aload_n 0, 1) := by decide +kernel
theorem s_170_0 (cl : am_C) (a1 a2 a3 : Option am_V) (x : Nat) (st : List am_V) (h : am_H) : am_go0 cl 170 0 [some (.inr (.inr (some x))), a1, a2, a3] st h = am_go0 cl 170 1 [some (.inr (.inr (some x))), a1, a2, a3] (.inr (.inr (some x)) :: st) h := am_r am_m170 d_170_0 rfl
theorem d_170_1 : am_code 170 1 = some (.iload_n 1, 1) := by decide +kernel
theorem s_170_1 (cl : am_C) (a0 a2 a3 : Option am_V) (x : Int) (st : List am_V) (h : am_H) : am_go0 cl 170 1 [a0, some (.inl x), a2, a3] st h = am_go0 cl 170 2 [a0, some (.inl x), a2, a3] (.inl x :: st) h := am_r am_m170 d_170_1 rfl
theorem d_170_2 : am_code 170 2 = some (.putfield 235, 3) := by decide +kernel
theorem s_170_2 (cl : am_C) (ls : am_Ls) (v : Int) (st : List am_V) (N : Nat) (I : Nat → Int → Int) (L : Nat → Int → Int64) : am_go0 cl 170 2 ls (.inl v :: .inr (.inr (some 53)) :: st) (am_GS N, am_GR, I, L) = am_go0 cl 170 5 ls st (am_GS N, am_GR, am_uI I 53 50 v, L) := am_rP0 am_m170 d_170_2 am_f9235 rfl (gs_53 N) (by decide) rfl
theorem d_170_5 : am_code 170 5 = some (.aload_n 0, 1) := by decide +kernel
theorem s_170_5 (cl : am_C) (a1 a2 a3 : Option am_V) (x : Nat) (st : List am_V) (h : am_H) : am_go0 cl 170 5 [some (.inr (.inr (some x))), a1, a2, a3] st h = am_go0 cl 170 6 [some (.inr (.inr (some x))), a1, a2, a3] (.inr (.inr (some x)) :: st) h := am_r am_m170 d_170_5 rfl
theorem d_170_6 : am_code 170 6 = some (.iload_n 2, 1) := by decide +kernel
theorem s_170_6 (cl : am_C) (a0 a1 a3 : Option am_V) (x : Int) (st : List am_V) (h : am_H) : am_go0 cl 170 6 [a0, a1, some (.inl x), a3] st h = am_go0 cl 170 7 [a0, a1, some (.inl x), a3] (.inl x :: st) h := am_r am_m170 d_170_6 rfl
theorem d_170_7 : am_code 170 7 = some (.putfield 139, 3) := by decide +kernel
theorem s_170_7 (cl : am_C) (ls : am_Ls) (v : Int) (st : List am_V) (N : Nat) (I : Nat → Int → Int) (L : Nat → Int → Int64) : am_go0 cl 170 7 ls (.inl v :: .inr (.inr (some 53)) :: st) (am_GS N, am_GR, I, L) = am_go0 cl 170 10 ls st (am_GS N, am_GR, am_uI I 53 51 v, L) := am_rP0 am_m170 d_170_7 am_f9139 rfl (gs_53 N) (by decide) rfl
theorem d_170_10 : am_code 170 10 = some (.aload_n 0, 1) := by decide +kernel
theorem s_170_10 (cl : am_C) (a1 a2 a3 : Option am_V) (x : Nat) (st : List am_V) (h : am_H) : am_go0 cl 170 10 [some (.inr (.inr (some x))), a1, a2, a3] st h = am_go0 cl 170 11 [some (.inr (.inr (some x))), a1, a2, a3] (.inr (.inr (some x)) :: st) h := am_r am_m170 d_170_10 rfl
theorem d_170_11 : am_code 170 11 = some (.iload_n 3, 1) := by decide +kernel
theorem s_170_11 (cl : am_C) (a0 a1 a2 : Option am_V) (x : Int) (st : List am_V) (h : am_H) : am_go0 cl 170 11 [a0, a1, a2, some (.inl x)] st h = am_go0 cl 170 12 [a0, a1, a2, some (.inl x)] (.inl x :: st) h := am_r am_m170 d_170_11 rfl
theorem d_170_12 : am_code 170 12 = some (.putfield 142, 3) := by decide +kernel
theorem s_170_12 (cl : am_C) (ls : am_Ls) (v : Int) (st : List am_V) (N : Nat) (I : Nat → Int → Int) (L : Nat → Int → Int64) : am_go0 cl 170 12 ls (.inl v :: .inr (.inr (some 53)) :: st) (am_GS N, am_GR, I, L) = am_go0 cl 170 15 ls st (am_GS N, am_GR, am_uI I 53 52 v, L) := am_rP0 am_m170 d_170_12 am_f9142 rfl (gs_53 N) (by decide) rfl
theorem d_170_15 : am_code 170 15 = some (.return_, 1) := by decide +kernel
theorem s_170_15 (cl : am_C) (ls : am_Ls) (h : am_H) : am_go0 cl 170 15 ls [] h = some (none, h) := am_rE am_m170 d_170_15 rfl
theorem e_170 (d : Nat) (t : Nat) (p0 : Int) (p1 : Int) (p2 : Int) (h : am_H) : am_call (d + 1) 170 [.inr (.inr (some t)), .inl p0, .inl p1, .inl p2] h = am_go0 (am_call d) 170 0 [some (.inr (.inr (some t))), some (.inl p0), some (.inl p1), some (.inl p2)] [] h := am_callE am_m170 (Nat.le_of_ble_eq_true rfl) rfl
theorem d_171_0 : am_code 171 0 = some (.aload_n 0, 1) := by decide +kernel
theorem s_171_0 (cl : am_C) (a1 : Option am_V) (x : Nat) (st : List am_V) (h : am_H) : am_go0 cl 171 0 [some (.inr (.inr (some x))), a1] st h = am_go0 cl 171 1 [some (.inr (.inr (some x))), a1] (.inr (.inr (some x)) :: st) h := am_r am_m171 d_171_0 rfl
theorem d_171_1 : am_code 171 1 = some (.getfield 124, 3) := by decide +kernel
theorem s_171_1 (cl : am_C) (ls : am_Ls) (st : List am_V) (N : Nat) (I : Nat → Int → Int) (L : Nat → Int → Int64) : am_go0 cl 171 1 ls (.inr (.inr (some 53)) :: st) (am_GS N, am_GR, I, L) = am_go0 cl 171 4 ls (.inr (.inr (some 88)) :: st) (am_GS N, am_GR, I, L) := am_rG2 am_m171 d_171_1 am_f9124 rfl (gs_53 N) (by decide) gr_53_42 rfl
theorem d_171_4 : am_code 171 4 = some (.aload_n 0, 1) := by decide +kernel
theorem s_171_4 (cl : am_C) (a1 : Option am_V) (x : Nat) (st : List am_V) (h : am_H) : am_go0 cl 171 4 [some (.inr (.inr (some x))), a1] st h = am_go0 cl 171 5 [some (.inr (.inr (some x))), a1] (.inr (.inr (some x)) :: st) h := am_r am_m171 d_171_4 rfl
theorem d_171_5 : am_code 171 5 = some (.getfield 229, 3) := by decide +kernel
theorem s_171_5 (cl : am_C) (ls : am_Ls) (st : List am_V) (N : Nat) (I : Nat → Int → Int) (L : Nat → Int → Int64) : am_go0 cl 171 5 ls (.inr (.inr (some 53)) :: st) (am_GS N, am_GR, I, L) = am_go0 cl 171 8 ls (.inl (I 53 43) :: st) (am_GS N, am_GR, I, L) := am_rG0 am_m171 d_171_5 am_f9229 rfl (gs_53 N) (by decide) rfl
theorem d_171_8 : am_code 171 8 = some (.iload_n 1, 1) := by decide +kernel
theorem s_171_8 (cl : am_C) (a0 : Option am_V) (x : Int) (st : List am_V) (h : am_H) : am_go0 cl 171 8 [a0, some (.inl x)] st h = am_go0 cl 171 9 [a0, some (.inl x)] (.inl x :: st) h := am_r am_m171 d_171_8 rfl
theorem d_171_9 : am_code 171 9 = some (.iastore, 1) := by decide +kernel
theorem s_171_9 (cl : am_C) (ls : am_Ls) (i : Int) (v : Int) (k : Nat) (st : List am_V) (N : Nat) (I : Nat → Int → Int) (L : Nat → Int → Int64) : am_go0 cl 171 9 ls (.inl v :: .inl i :: .inr (.inr (some k)) :: st) (am_GS N, am_GR, I, L) = if am_inb (am_GS N) k 0 i = true then am_go0 cl 171 10 ls st (am_GS N, am_GR, am_uI I k i v, L) else none := am_rS am_m171 d_171_9 rfl k ls st i v _ _ I L
theorem d_171_10 : am_code 171 10 = some (.aload_n 0, 1) := by decide +kernel
theorem s_171_10 (cl : am_C) (a1 : Option am_V) (x : Nat) (st : List am_V) (h : am_H) : am_go0 cl 171 10 [some (.inr (.inr (some x))), a1] st h = am_go0 cl 171 11 [some (.inr (.inr (some x))), a1] (.inr (.inr (some x)) :: st) h := am_r am_m171 d_171_10 rfl
theorem d_171_11 : am_code 171 11 = some (.dup, 1) := by decide +kernel
theorem s_171_11 (cl : am_C) (ls : am_Ls) (x : Nat) (st : List am_V) (h : am_H) : am_go0 cl 171 11 ls (.inr (.inr (some x)) :: st) h = am_go0 cl 171 12 ls (.inr (.inr (some x)) :: .inr (.inr (some x)) :: st) h := am_r am_m171 d_171_11 rfl
theorem d_171_12 : am_code 171 12 = some (.getfield 229, 3) := by decide +kernel
theorem s_171_12 (cl : am_C) (ls : am_Ls) (st : List am_V) (N : Nat) (I : Nat → Int → Int) (L : Nat → Int → Int64) : am_go0 cl 171 12 ls (.inr (.inr (some 53)) :: st) (am_GS N, am_GR, I, L) = am_go0 cl 171 15 ls (.inl (I 53 43) :: st) (am_GS N, am_GR, I, L) := am_rG0 am_m171 d_171_12 am_f9229 rfl (gs_53 N) (by decide) rfl
theorem d_171_15 : am_code 171 15 = some (.iconst 1, 1) := by decide +kernel
theorem s_171_15 (cl : am_C) (ls : am_Ls) (st : List am_V) (h : am_H) : am_go0 cl 171 15 ls st h = am_go0 cl 171 16 ls (.inl 1 :: st) h := am_rK am_m171 d_171_15 (by decide) rfl _ _ _
theorem d_171_16 : am_code 171 16 = some (.iadd, 1) := by decide +kernel
theorem s_171_16 (cl : am_C) (ls : am_Ls) (x y : Int) (st : List am_V) (h : am_H) : am_go0 cl 171 16 ls (.inl y :: .inl x :: st) h = am_go0 cl 171 17 ls (.inl (am_wr (x + y)) :: st) h := am_r am_m171 d_171_16 rfl
theorem d_171_17 : am_code 171 17 = some (.putfield 229, 3) := by decide +kernel
theorem s_171_17 (cl : am_C) (ls : am_Ls) (v : Int) (st : List am_V) (N : Nat) (I : Nat → Int → Int) (L : Nat → Int → Int64) : am_go0 cl 171 17 ls (.inl v :: .inr (.inr (some 53)) :: st) (am_GS N, am_GR, I, L) = am_go0 cl 171 20 ls st (am_GS N, am_GR, am_uI I 53 43 v, L) := am_rP0 am_m171 d_171_17 am_f9229 rfl (gs_53 N) (by decide) rfl
theorem d_171_20 : am_code 171 20 = some (.return_, 1) := by decide +kernel
theorem s_171_20 (cl : am_C) (ls : am_Ls) (h : am_H) : am_go0 cl 171 20 ls [] h = some (none, h) := am_rE am_m171 d_171_20 rfl
theorem e_171 (d : Nat) (t : Nat) (p0 : Int) (h : am_H) : am_call (d + 1) 171 [.inr (.inr (some t)), .inl p0] h = am_go0 (am_call d) 171 0 [some (.inr (.inr (some t))), some (.inl p0)] [] h := am_callE am_m171 (Nat.le_of_ble_eq_true rfl) rfl
theorem d_172_0 : am_code 172 0 = some (.aload_n 0, 1) := by decide +kernel
theorem s_172_0 (cl : am_C) (a1 a2 : Option am_V) (x : Nat) (st : List am_V) (h : am_H) : am_go0 cl 172 0 [some (.inr (.inr (some x))), a1, a2] st h = am_go0 cl 172 1 [some (.inr (.inr (some x))), a1, a2] (.inr (.inr (some x)) :: st) h := am_r am_m172 d_172_0 rfl
theorem d_172_1 : am_code 172 1 = some (.dup, 1) := by decide +kernel
theorem s_172_1 (cl : am_C) (ls : am_Ls) (x : Nat) (st : List am_V) (h : am_H) : am_go0 cl 172 1 ls (.inr (.inr (some x)) :: st) h = am_go0 cl 172 2 ls (.inr (.inr (some x)) :: .inr (.inr (some x)) :: st) h := am_r am_m172 d_172_1 rfl
theorem d_172_2 : am_code 172 2 = some (.getfield 242, 3) := by decide +kernel
theorem s_172_2 (cl : am_C) (ls : am_Ls) (st : List am_V) (N : Nat) (I : Nat → Int → Int) (L : Nat → Int → Int64) : am_go0 cl 172 2 ls (.inr (.inr (some 53)) :: st) (am_GS N, am_GR, I, L) = am_go0 cl 172 5 ls (.inl (I 53 49) :: st) (am_GS N, am_GR, I, L) := am_rG0 am_m172 d_172_2 am_f9242 rfl (gs_53 N) (by decide) rfl
theorem d_172_5 : am_code 172 5 = some (.iconst 1, 1) := by decide +kernel
theorem s_172_5 (cl : am_C) (ls : am_Ls) (st : List am_V) (h : am_H) : am_go0 cl 172 5 ls st h = am_go0 cl 172 6 ls (.inl 1 :: st) h := am_rK am_m172 d_172_5 (by decide) rfl _ _ _
theorem d_172_6 : am_code 172 6 = some (.isub, 1) := by decide +kernel
theorem s_172_6 (cl : am_C) (ls : am_Ls) (x y : Int) (st : List am_V) (h : am_H) : am_go0 cl 172 6 ls (.inl y :: .inl x :: st) h = am_go0 cl 172 7 ls (.inl (am_wr (x - y)) :: st) h := am_r am_m172 d_172_6 rfl
theorem d_172_7 : am_code 172 7 = some (.putfield 242, 3) := by decide +kernel
theorem s_172_7 (cl : am_C) (ls : am_Ls) (v : Int) (st : List am_V) (N : Nat) (I : Nat → Int → Int) (L : Nat → Int → Int64) : am_go0 cl 172 7 ls (.inl v :: .inr (.inr (some 53)) :: st) (am_GS N, am_GR, I, L) = am_go0 cl 172 10 ls st (am_GS N, am_GR, am_uI I 53 49 v, L) := am_rP0 am_m172 d_172_7 am_f9242 rfl (gs_53 N) (by decide) rfl
theorem d_172_10 : am_code 172 10 = some (.aload_n 0, 1) := by decide +kernel
theorem s_172_10 (cl : am_C) (a1 a2 : Option am_V) (x : Nat) (st : List am_V) (h : am_H) : am_go0 cl 172 10 [some (.inr (.inr (some x))), a1, a2] st h = am_go0 cl 172 11 [some (.inr (.inr (some x))), a1, a2] (.inr (.inr (some x)) :: st) h := am_r am_m172 d_172_10 rfl
theorem d_172_11 : am_code 172 11 = some (.getfield 130, 3) := by decide +kernel
theorem s_172_11 (cl : am_C) (ls : am_Ls) (st : List am_V) (N : Nat) (I : Nat → Int → Int) (L : Nat → Int → Int64) : am_go0 cl 172 11 ls (.inr (.inr (some 53)) :: st) (am_GS N, am_GR, I, L) = am_go0 cl 172 14 ls (.inr (.inr (some 90)) :: st) (am_GS N, am_GR, I, L) := am_rG2 am_m172 d_172_11 am_f9130 rfl (gs_53 N) (by decide) gr_53_46 rfl
theorem d_172_14 : am_code 172 14 = some (.aload_n 0, 1) := by decide +kernel
theorem s_172_14 (cl : am_C) (a1 a2 : Option am_V) (x : Nat) (st : List am_V) (h : am_H) : am_go0 cl 172 14 [some (.inr (.inr (some x))), a1, a2] st h = am_go0 cl 172 15 [some (.inr (.inr (some x))), a1, a2] (.inr (.inr (some x)) :: st) h := am_r am_m172 d_172_14 rfl
theorem d_172_15 : am_code 172 15 = some (.getfield 242, 3) := by decide +kernel
theorem s_172_15 (cl : am_C) (ls : am_Ls) (st : List am_V) (N : Nat) (I : Nat → Int → Int) (L : Nat → Int → Int64) : am_go0 cl 172 15 ls (.inr (.inr (some 53)) :: st) (am_GS N, am_GR, I, L) = am_go0 cl 172 18 ls (.inl (I 53 49) :: st) (am_GS N, am_GR, I, L) := am_rG0 am_m172 d_172_15 am_f9242 rfl (gs_53 N) (by decide) rfl
theorem d_172_18 : am_code 172 18 = some (.iaload, 1) := by decide +kernel
theorem s_172_18 (cl : am_C) (ls : am_Ls) (i : Int) (k : Nat) (st : List am_V) (N : Nat) (I : Nat → Int → Int) (L : Nat → Int → Int64) : am_go0 cl 172 18 ls (.inl i :: .inr (.inr (some k)) :: st) (am_GS N, am_GR, I, L) = if am_inb (am_GS N) k 0 i = true then am_go0 cl 172 19 ls (.inl (I k i) :: st) (am_GS N, am_GR, I, L) else none := am_rA am_m172 d_172_18 (by decide) rfl k ls st i _ _ I L
theorem d_172_19 : am_code 172 19 = some (.istore_n 1, 1) := by decide +kernel
theorem s_172_19 (cl : am_C) (a0 a1 a2 : Option am_V) (x : Int) (st : List am_V) (h : am_H) : am_go0 cl 172 19 [a0, a1, a2] (.inl x :: st) h = am_go0 cl 172 20 [am_c1 a0, some (.inl x), a2] st h := am_r am_m172 d_172_19 rfl
theorem d_172_20 : am_code 172 20 = some (.aload_n 0, 1) := by decide +kernel
theorem s_172_20 (cl : am_C) (a1 a2 : Option am_V) (x : Nat) (st : List am_V) (h : am_H) : am_go0 cl 172 20 [some (.inr (.inr (some x))), a1, a2] st h = am_go0 cl 172 21 [some (.inr (.inr (some x))), a1, a2] (.inr (.inr (some x)) :: st) h := am_r am_m172 d_172_20 rfl
theorem d_172_21 : am_code 172 21 = some (.getfield 133, 3) := by decide +kernel
theorem s_172_21 (cl : am_C) (ls : am_Ls) (st : List am_V) (N : Nat) (I : Nat → Int → Int) (L : Nat → Int → Int64) : am_go0 cl 172 21 ls (.inr (.inr (some 53)) :: st) (am_GS N, am_GR, I, L) = am_go0 cl 172 24 ls (.inr (.inr (some 91)) :: st) (am_GS N, am_GR, I, L) := am_rG2 am_m172 d_172_21 am_f9133 rfl (gs_53 N) (by decide) gr_53_47 rfl
theorem d_172_24 : am_code 172 24 = some (.aload_n 0, 1) := by decide +kernel
theorem s_172_24 (cl : am_C) (a1 a2 : Option am_V) (x : Nat) (st : List am_V) (h : am_H) : am_go0 cl 172 24 [some (.inr (.inr (some x))), a1, a2] st h = am_go0 cl 172 25 [some (.inr (.inr (some x))), a1, a2] (.inr (.inr (some x)) :: st) h := am_r am_m172 d_172_24 rfl
theorem d_172_25 : am_code 172 25 = some (.getfield 242, 3) := by decide +kernel
theorem s_172_25 (cl : am_C) (ls : am_Ls) (st : List am_V) (N : Nat) (I : Nat → Int → Int) (L : Nat → Int → Int64) : am_go0 cl 172 25 ls (.inr (.inr (some 53)) :: st) (am_GS N, am_GR, I, L) = am_go0 cl 172 28 ls (.inl (I 53 49) :: st) (am_GS N, am_GR, I, L) := am_rG0 am_m172 d_172_25 am_f9242 rfl (gs_53 N) (by decide) rfl
theorem d_172_28 : am_code 172 28 = some (.iaload, 1) := by decide +kernel
theorem s_172_28 (cl : am_C) (ls : am_Ls) (i : Int) (k : Nat) (st : List am_V) (N : Nat) (I : Nat → Int → Int) (L : Nat → Int → Int64) : am_go0 cl 172 28 ls (.inl i :: .inr (.inr (some k)) :: st) (am_GS N, am_GR, I, L) = if am_inb (am_GS N) k 0 i = true then am_go0 cl 172 29 ls (.inl (I k i) :: st) (am_GS N, am_GR, I, L) else none := am_rA am_m172 d_172_28 (by decide) rfl k ls st i _ _ I L
theorem d_172_29 : am_code 172 29 = some (.istore_n 2, 1) := by decide +kernel
theorem s_172_29 (cl : am_C) (a0 a1 a2 : Option am_V) (x : Int) (st : List am_V) (h : am_H) : am_go0 cl 172 29 [a0, a1, a2] (.inl x :: st) h = am_go0 cl 172 30 [a0, am_c1 a1, some (.inl x)] st h := am_r am_m172 d_172_29 rfl
theorem d_172_30 : am_code 172 30 = some (.aload_n 0, 1) := by decide +kernel
theorem s_172_30 (cl : am_C) (a1 a2 : Option am_V) (x : Nat) (st : List am_V) (h : am_H) : am_go0 cl 172 30 [some (.inr (.inr (some x))), a1, a2] st h = am_go0 cl 172 31 [some (.inr (.inr (some x))), a1, a2] (.inr (.inr (some x)) :: st) h := am_r am_m172 d_172_30 rfl
theorem d_172_31 : am_code 172 31 = some (.getfield 99, 3) := by decide +kernel
theorem s_172_31 (cl : am_C) (ls : am_Ls) (st : List am_V) (N : Nat) (I : Nat → Int → Int) (L : Nat → Int → Int64) : am_go0 cl 172 31 ls (.inr (.inr (some 53)) :: st) (am_GS N, am_GR, I, L) = am_go0 cl 172 34 ls (.inr (.inr (some 82)) :: st) (am_GS N, am_GR, I, L) := am_rG2 am_m172 d_172_31 am_f9099 rfl (gs_53 N) (by decide) gr_53_34 rfl
theorem d_172_34 : am_code 172 34 = some (.iconst 4, 1) := by decide +kernel
theorem s_172_34 (cl : am_C) (ls : am_Ls) (st : List am_V) (h : am_H) : am_go0 cl 172 34 ls st h = am_go0 cl 172 35 ls (.inl 4 :: st) h := am_rK am_m172 d_172_34 (by decide) rfl _ _ _
theorem d_172_35 : am_code 172 35 = some (.iload_n 1, 1) := by decide +kernel
theorem s_172_35 (cl : am_C) (a0 a2 : Option am_V) (x : Int) (st : List am_V) (h : am_H) : am_go0 cl 172 35 [a0, some (.inl x), a2] st h = am_go0 cl 172 36 [a0, some (.inl x), a2] (.inl x :: st) h := am_r am_m172 d_172_35 rfl
theorem d_172_36 : am_code 172 36 = some (.imul, 1) := by decide +kernel
theorem s_172_36 (cl : am_C) (ls : am_Ls) (x y : Int) (st : List am_V) (h : am_H) : am_go0 cl 172 36 ls (.inl y :: .inl x :: st) h = am_go0 cl 172 37 ls (.inl (am_wr (x * y)) :: st) h := am_r am_m172 d_172_36 rfl
theorem d_172_37 : am_code 172 37 = some (.iload_n 2, 1) := by decide +kernel
theorem s_172_37 (cl : am_C) (a0 a1 : Option am_V) (x : Int) (st : List am_V) (h : am_H) : am_go0 cl 172 37 [a0, a1, some (.inl x)] st h = am_go0 cl 172 38 [a0, a1, some (.inl x)] (.inl x :: st) h := am_r am_m172 d_172_37 rfl
theorem d_172_38 : am_code 172 38 = some (.iadd, 1) := by decide +kernel
theorem s_172_38 (cl : am_C) (ls : am_Ls) (x y : Int) (st : List am_V) (h : am_H) : am_go0 cl 172 38 ls (.inl y :: .inl x :: st) h = am_go0 cl 172 39 ls (.inl (am_wr (x + y)) :: st) h := am_r am_m172 d_172_38 rfl
theorem d_172_39 : am_code 172 39 = some (.iconst 0, 1) := by decide +kernel
theorem s_172_39 (cl : am_C) (ls : am_Ls) (st : List am_V) (h : am_H) : am_go0 cl 172 39 ls st h = am_go0 cl 172 40 ls (.inl 0 :: st) h := am_rK am_m172 d_172_39 (by decide) rfl _ _ _
theorem d_172_40 : am_code 172 40 = some (.bastore, 1) := by decide +kernel
theorem s_172_40 (cl : am_C) (ls : am_Ls) (i : Int) (v : Int) (k : Nat) (st : List am_V) (N : Nat) (I : Nat → Int → Int) (L : Nat → Int → Int64) : am_go0 cl 172 40 ls (.inl v :: .inl i :: .inr (.inr (some k)) :: st) (am_GS N, am_GR, I, L) = if am_inb (am_GS N) k 2 i = true ∧ (v = 0 ∨ v = 1) then am_go0 cl 172 41 ls st (am_GS N, am_GR, am_uI I k i v, L) else none := am_rSb am_m172 d_172_40 rfl k ls st i v _ _ I L
theorem d_172_41 : am_code 172 41 = some (.aload_n 0, 1) := by decide +kernel
theorem s_172_41 (cl : am_C) (a1 a2 : Option am_V) (x : Nat) (st : List am_V) (h : am_H) : am_go0 cl 172 41 [some (.inr (.inr (some x))), a1, a2] st h = am_go0 cl 172 42 [some (.inr (.inr (some x))), a1, a2] (.inr (.inr (some x)) :: st) h := am_r am_m172 d_172_41 rfl
theorem d_172_42 : am_code 172 42 = some (.getfield 96, 3) := by decide +kernel
theorem s_172_42 (cl : am_C) (ls : am_Ls) (st : List am_V) (N : Nat) (I : Nat → Int → Int) (L : Nat → Int → Int64) : am_go0 cl 172 42 ls (.inr (.inr (some 53)) :: st) (am_GS N, am_GR, I, L) = am_go0 cl 172 45 ls (.inr (.inr (some 81)) :: st) (am_GS N, am_GR, I, L) := am_rG2 am_m172 d_172_42 am_f9096 rfl (gs_53 N) (by decide) gr_53_33 rfl
theorem d_172_45 : am_code 172 45 = some (.iconst 4, 1) := by decide +kernel
theorem s_172_45 (cl : am_C) (ls : am_Ls) (st : List am_V) (h : am_H) : am_go0 cl 172 45 ls st h = am_go0 cl 172 46 ls (.inl 4 :: st) h := am_rK am_m172 d_172_45 (by decide) rfl _ _ _
theorem d_172_46 : am_code 172 46 = some (.iload_n 1, 1) := by decide +kernel
theorem s_172_46 (cl : am_C) (a0 a2 : Option am_V) (x : Int) (st : List am_V) (h : am_H) : am_go0 cl 172 46 [a0, some (.inl x), a2] st h = am_go0 cl 172 47 [a0, some (.inl x), a2] (.inl x :: st) h := am_r am_m172 d_172_46 rfl
theorem d_172_47 : am_code 172 47 = some (.imul, 1) := by decide +kernel
theorem s_172_47 (cl : am_C) (ls : am_Ls) (x y : Int) (st : List am_V) (h : am_H) : am_go0 cl 172 47 ls (.inl y :: .inl x :: st) h = am_go0 cl 172 48 ls (.inl (am_wr (x * y)) :: st) h := am_r am_m172 d_172_47 rfl
theorem d_172_48 : am_code 172 48 = some (.iload_n 2, 1) := by decide +kernel
theorem s_172_48 (cl : am_C) (a0 a1 : Option am_V) (x : Int) (st : List am_V) (h : am_H) : am_go0 cl 172 48 [a0, a1, some (.inl x)] st h = am_go0 cl 172 49 [a0, a1, some (.inl x)] (.inl x :: st) h := am_r am_m172 d_172_48 rfl
theorem d_172_49 : am_code 172 49 = some (.iadd, 1) := by decide +kernel
theorem s_172_49 (cl : am_C) (ls : am_Ls) (x y : Int) (st : List am_V) (h : am_H) : am_go0 cl 172 49 ls (.inl y :: .inl x :: st) h = am_go0 cl 172 50 ls (.inl (am_wr (x + y)) :: st) h := am_r am_m172 d_172_49 rfl
theorem d_172_50 : am_code 172 50 = some (.iconst 1, 1) := by decide +kernel
theorem s_172_50 (cl : am_C) (ls : am_Ls) (st : List am_V) (h : am_H) : am_go0 cl 172 50 ls st h = am_go0 cl 172 51 ls (.inl 1 :: st) h := am_rK am_m172 d_172_50 (by decide) rfl _ _ _
theorem d_172_51 : am_code 172 51 = some (.bastore, 1) := by decide +kernel
theorem s_172_51 (cl : am_C) (ls : am_Ls) (i : Int) (v : Int) (k : Nat) (st : List am_V) (N : Nat) (I : Nat → Int → Int) (L : Nat → Int → Int64) : am_go0 cl 172 51 ls (.inl v :: .inl i :: .inr (.inr (some k)) :: st) (am_GS N, am_GR, I, L) = if am_inb (am_GS N) k 2 i = true ∧ (v = 0 ∨ v = 1) then am_go0 cl 172 52 ls st (am_GS N, am_GR, am_uI I k i v, L) else none := am_rSb am_m172 d_172_51 rfl k ls st i v _ _ I L
theorem d_172_52 : am_code 172 52 = some (.aload_n 0, 1) := by decide +kernel
theorem s_172_52 (cl : am_C) (a1 a2 : Option am_V) (x : Nat) (st : List am_V) (h : am_H) : am_go0 cl 172 52 [some (.inr (.inr (some x))), a1, a2] st h = am_go0 cl 172 53 [some (.inr (.inr (some x))), a1, a2] (.inr (.inr (some x)) :: st) h := am_r am_m172 d_172_52 rfl
theorem d_172_53 : am_code 172 53 = some (.getfield 102, 3) := by decide +kernel
theorem s_172_53 (cl : am_C) (ls : am_Ls) (st : List am_V) (N : Nat) (I : Nat → Int → Int) (L : Nat → Int → Int64) : am_go0 cl 172 53 ls (.inr (.inr (some 53)) :: st) (am_GS N, am_GR, I, L) = am_go0 cl 172 56 ls (.inr (.inr (some 83)) :: st) (am_GS N, am_GR, I, L) := am_rG2 am_m172 d_172_53 am_f9102 rfl (gs_53 N) (by decide) gr_53_35 rfl
theorem d_172_56 : am_code 172 56 = some (.iconst 4, 1) := by decide +kernel
theorem s_172_56 (cl : am_C) (ls : am_Ls) (st : List am_V) (h : am_H) : am_go0 cl 172 56 ls st h = am_go0 cl 172 57 ls (.inl 4 :: st) h := am_rK am_m172 d_172_56 (by decide) rfl _ _ _
theorem d_172_57 : am_code 172 57 = some (.iload_n 1, 1) := by decide +kernel
theorem s_172_57 (cl : am_C) (a0 a2 : Option am_V) (x : Int) (st : List am_V) (h : am_H) : am_go0 cl 172 57 [a0, some (.inl x), a2] st h = am_go0 cl 172 58 [a0, some (.inl x), a2] (.inl x :: st) h := am_r am_m172 d_172_57 rfl
theorem d_172_58 : am_code 172 58 = some (.imul, 1) := by decide +kernel
theorem s_172_58 (cl : am_C) (ls : am_Ls) (x y : Int) (st : List am_V) (h : am_H) : am_go0 cl 172 58 ls (.inl y :: .inl x :: st) h = am_go0 cl 172 59 ls (.inl (am_wr (x * y)) :: st) h := am_r am_m172 d_172_58 rfl
theorem d_172_59 : am_code 172 59 = some (.iload_n 2, 1) := by decide +kernel
theorem s_172_59 (cl : am_C) (a0 a1 : Option am_V) (x : Int) (st : List am_V) (h : am_H) : am_go0 cl 172 59 [a0, a1, some (.inl x)] st h = am_go0 cl 172 60 [a0, a1, some (.inl x)] (.inl x :: st) h := am_r am_m172 d_172_59 rfl
theorem d_172_60 : am_code 172 60 = some (.iadd, 1) := by decide +kernel
theorem s_172_60 (cl : am_C) (ls : am_Ls) (x y : Int) (st : List am_V) (h : am_H) : am_go0 cl 172 60 ls (.inl y :: .inl x :: st) h = am_go0 cl 172 61 ls (.inl (am_wr (x + y)) :: st) h := am_r am_m172 d_172_60 rfl
theorem d_172_61 : am_code 172 61 = some (.aload_n 0, 1) := by decide +kernel
theorem s_172_61 (cl : am_C) (a1 a2 : Option am_V) (x : Nat) (st : List am_V) (h : am_H) : am_go0 cl 172 61 [some (.inr (.inr (some x))), a1, a2] st h = am_go0 cl 172 62 [some (.inr (.inr (some x))), a1, a2] (.inr (.inr (some x)) :: st) h := am_r am_m172 d_172_61 rfl
theorem d_172_62 : am_code 172 62 = some (.getfield 127, 3) := by decide +kernel
theorem s_172_62 (cl : am_C) (ls : am_Ls) (st : List am_V) (N : Nat) (I : Nat → Int → Int) (L : Nat → Int → Int64) : am_go0 cl 172 62 ls (.inr (.inr (some 53)) :: st) (am_GS N, am_GR, I, L) = am_go0 cl 172 65 ls (.inr (.inr (some 89)) :: st) (am_GS N, am_GR, I, L) := am_rG2 am_m172 d_172_62 am_f9127 rfl (gs_53 N) (by decide) gr_53_44 rfl
theorem d_172_65 : am_code 172 65 = some (.aload_n 0, 1) := by decide +kernel
theorem s_172_65 (cl : am_C) (a1 a2 : Option am_V) (x : Nat) (st : List am_V) (h : am_H) : am_go0 cl 172 65 [some (.inr (.inr (some x))), a1, a2] st h = am_go0 cl 172 66 [some (.inr (.inr (some x))), a1, a2] (.inr (.inr (some x)) :: st) h := am_r am_m172 d_172_65 rfl
theorem d_172_66 : am_code 172 66 = some (.getfield 232, 3) := by decide +kernel
theorem s_172_66 (cl : am_C) (ls : am_Ls) (st : List am_V) (N : Nat) (I : Nat → Int → Int) (L : Nat → Int → Int64) : am_go0 cl 172 66 ls (.inr (.inr (some 53)) :: st) (am_GS N, am_GR, I, L) = am_go0 cl 172 69 ls (.inl (I 53 45) :: st) (am_GS N, am_GR, I, L) := am_rG0 am_m172 d_172_66 am_f9232 rfl (gs_53 N) (by decide) rfl
theorem d_172_69 : am_code 172 69 = some (.iconst 1, 1) := by decide +kernel
theorem s_172_69 (cl : am_C) (ls : am_Ls) (st : List am_V) (h : am_H) : am_go0 cl 172 69 ls st h = am_go0 cl 172 70 ls (.inl 1 :: st) h := am_rK am_m172 d_172_69 (by decide) rfl _ _ _
theorem d_172_70 : am_code 172 70 = some (.isub, 1) := by decide +kernel
theorem s_172_70 (cl : am_C) (ls : am_Ls) (x y : Int) (st : List am_V) (h : am_H) : am_go0 cl 172 70 ls (.inl y :: .inl x :: st) h = am_go0 cl 172 71 ls (.inl (am_wr (x - y)) :: st) h := am_r am_m172 d_172_70 rfl
theorem d_172_71 : am_code 172 71 = some (.laload, 1) := by decide +kernel
theorem s_172_71 (cl : am_C) (ls : am_Ls) (i : Int) (k : Nat) (st : List am_V) (N : Nat) (I : Nat → Int → Int) (L : Nat → Int → Int64) : am_go0 cl 172 71 ls (.inl i :: .inr (.inr (some k)) :: st) (am_GS N, am_GR, I, L) = if am_inb (am_GS N) k 1 i = true then am_go0 cl 172 72 ls (.inr (.inl (L k i)) :: st) (am_GS N, am_GR, I, L) else none := am_rAl am_m172 d_172_71 rfl k ls st i _ _ I L
theorem d_172_72 : am_code 172 72 = some (.lastore, 1) := by decide +kernel
theorem s_172_72 (cl : am_C) (ls : am_Ls) (i : Int) (v : Int64) (k : Nat) (st : List am_V) (N : Nat) (I : Nat → Int → Int) (L : Nat → Int → Int64) : am_go0 cl 172 72 ls (.inr (.inl v) :: .inl i :: .inr (.inr (some k)) :: st) (am_GS N, am_GR, I, L) = if am_inb (am_GS N) k 1 i = true then am_go0 cl 172 73 ls st (am_GS N, am_GR, I, am_uL L k i v) else none := am_rSl am_m172 d_172_72 rfl k ls st i v _ _ I L
theorem d_172_73 : am_code 172 73 = some (.aload_n 0, 1) := by decide +kernel
theorem s_172_73 (cl : am_C) (a1 a2 : Option am_V) (x : Nat) (st : List am_V) (h : am_H) : am_go0 cl 172 73 [some (.inr (.inr (some x))), a1, a2] st h = am_go0 cl 172 74 [some (.inr (.inr (some x))), a1, a2] (.inr (.inr (some x)) :: st) h := am_r am_m172 d_172_73 rfl
theorem d_172_74 : am_code 172 74 = some (.getfield 145, 3) := by decide +kernel
theorem s_172_74 (cl : am_C) (ls : am_Ls) (st : List am_V) (N : Nat) (I : Nat → Int → Int) (L : Nat → Int → Int64) : am_go0 cl 172 74 ls (.inr (.inr (some 53)) :: st) (am_GS N, am_GR, I, L) = am_go0 cl 172 77 ls (.inr (.inr (some 93)) :: st) (am_GS N, am_GR, I, L) := am_rG2 am_m172 d_172_74 am_f9145 rfl (gs_53 N) (by decide) gr_53_54 rfl
theorem d_172_77 : am_code 172 77 = some (.aload_n 0, 1) := by decide +kernel
theorem s_172_77 (cl : am_C) (a1 a2 : Option am_V) (x : Nat) (st : List am_V) (h : am_H) : am_go0 cl 172 77 [some (.inr (.inr (some x))), a1, a2] st h = am_go0 cl 172 78 [some (.inr (.inr (some x))), a1, a2] (.inr (.inr (some x)) :: st) h := am_r am_m172 d_172_77 rfl
theorem d_172_78 : am_code 172 78 = some (.getfield 266, 3) := by decide +kernel
theorem s_172_78 (cl : am_C) (ls : am_Ls) (st : List am_V) (N : Nat) (I : Nat → Int → Int) (L : Nat → Int → Int64) : am_go0 cl 172 78 ls (.inr (.inr (some 53)) :: st) (am_GS N, am_GR, I, L) = am_go0 cl 172 81 ls (.inl (I 53 53) :: st) (am_GS N, am_GR, I, L) := am_rG0 am_m172 d_172_78 am_f9266 rfl (gs_53 N) (by decide) rfl
theorem d_172_81 : am_code 172 81 = some (.iload_n 1, 1) := by decide +kernel
theorem s_172_81 (cl : am_C) (a0 a2 : Option am_V) (x : Int) (st : List am_V) (h : am_H) : am_go0 cl 172 81 [a0, some (.inl x), a2] st h = am_go0 cl 172 82 [a0, some (.inl x), a2] (.inl x :: st) h := am_r am_m172 d_172_81 rfl
theorem d_172_82 : am_code 172 82 = some (.iastore, 1) := by decide +kernel
theorem s_172_82 (cl : am_C) (ls : am_Ls) (i : Int) (v : Int) (k : Nat) (st : List am_V) (N : Nat) (I : Nat → Int → Int) (L : Nat → Int → Int64) : am_go0 cl 172 82 ls (.inl v :: .inl i :: .inr (.inr (some k)) :: st) (am_GS N, am_GR, I, L) = if am_inb (am_GS N) k 0 i = true then am_go0 cl 172 83 ls st (am_GS N, am_GR, am_uI I k i v, L) else none := am_rS am_m172 d_172_82 rfl k ls st i v _ _ I L
theorem d_172_83 : am_code 172 83 = some (.aload_n 0, 1) := by decide +kernel
theorem s_172_83 (cl : am_C) (a1 a2 : Option am_V) (x : Nat) (st : List am_V) (h : am_H) : am_go0 cl 172 83 [some (.inr (.inr (some x))), a1, a2] st h = am_go0 cl 172 84 [some (.inr (.inr (some x))), a1, a2] (.inr (.inr (some x)) :: st) h := am_r am_m172 d_172_83 rfl
theorem d_172_84 : am_code 172 84 = some (.getfield 148, 3) := by decide +kernel
theorem s_172_84 (cl : am_C) (ls : am_Ls) (st : List am_V) (N : Nat) (I : Nat → Int → Int) (L : Nat → Int → Int64) : am_go0 cl 172 84 ls (.inr (.inr (some 53)) :: st) (am_GS N, am_GR, I, L) = am_go0 cl 172 87 ls (.inr (.inr (some 94)) :: st) (am_GS N, am_GR, I, L) := am_rG2 am_m172 d_172_84 am_f9148 rfl (gs_53 N) (by decide) gr_53_55 rfl
theorem d_172_87 : am_code 172 87 = some (.aload_n 0, 1) := by decide +kernel
theorem s_172_87 (cl : am_C) (a1 a2 : Option am_V) (x : Nat) (st : List am_V) (h : am_H) : am_go0 cl 172 87 [some (.inr (.inr (some x))), a1, a2] st h = am_go0 cl 172 88 [some (.inr (.inr (some x))), a1, a2] (.inr (.inr (some x)) :: st) h := am_r am_m172 d_172_87 rfl
theorem d_172_88 : am_code 172 88 = some (.getfield 266, 3) := by decide +kernel
theorem s_172_88 (cl : am_C) (ls : am_Ls) (st : List am_V) (N : Nat) (I : Nat → Int → Int) (L : Nat → Int → Int64) : am_go0 cl 172 88 ls (.inr (.inr (some 53)) :: st) (am_GS N, am_GR, I, L) = am_go0 cl 172 91 ls (.inl (I 53 53) :: st) (am_GS N, am_GR, I, L) := am_rG0 am_m172 d_172_88 am_f9266 rfl (gs_53 N) (by decide) rfl
theorem d_172_91 : am_code 172 91 = some (.iload_n 2, 1) := by decide +kernel
theorem s_172_91 (cl : am_C) (a0 a1 : Option am_V) (x : Int) (st : List am_V) (h : am_H) : am_go0 cl 172 91 [a0, a1, some (.inl x)] st h = am_go0 cl 172 92 [a0, a1, some (.inl x)] (.inl x :: st) h := am_r am_m172 d_172_91 rfl
theorem d_172_92 : am_code 172 92 = some (.iastore, 1) := by decide +kernel
theorem s_172_92 (cl : am_C) (ls : am_Ls) (i : Int) (v : Int) (k : Nat) (st : List am_V) (N : Nat) (I : Nat → Int → Int) (L : Nat → Int → Int64) : am_go0 cl 172 92 ls (.inl v :: .inl i :: .inr (.inr (some k)) :: st) (am_GS N, am_GR, I, L) = if am_inb (am_GS N) k 0 i = true then am_go0 cl 172 93 ls st (am_GS N, am_GR, am_uI I k i v, L) else none := am_rS am_m172 d_172_92 rfl k ls st i v _ _ I L
theorem d_172_93 : am_code 172 93 = some (.aload_n 0, 1) := by decide +kernel
theorem s_172_93 (cl : am_C) (a1 a2 : Option am_V) (x : Nat) (st : List am_V) (h : am_H) : am_go0 cl 172 93 [some (.inr (.inr (some x))), a1, a2] st h = am_go0 cl 172 94 [some (.inr (.inr (some x))), a1, a2] (.inr (.inr (some x)) :: st) h := am_r am_m172 d_172_93 rfl
theorem d_172_94 : am_code 172 94 = some (.dup, 1) := by decide +kernel
theorem s_172_94 (cl : am_C) (ls : am_Ls) (x : Nat) (st : List am_V) (h : am_H) : am_go0 cl 172 94 ls (.inr (.inr (some x)) :: st) h = am_go0 cl 172 95 ls (.inr (.inr (some x)) :: .inr (.inr (some x)) :: st) h := am_r am_m172 d_172_94 rfl
theorem d_172_95 : am_code 172 95 = some (.getfield 266, 3) := by decide +kernel
theorem s_172_95 (cl : am_C) (ls : am_Ls) (st : List am_V) (N : Nat) (I : Nat → Int → Int) (L : Nat → Int → Int64) : am_go0 cl 172 95 ls (.inr (.inr (some 53)) :: st) (am_GS N, am_GR, I, L) = am_go0 cl 172 98 ls (.inl (I 53 53) :: st) (am_GS N, am_GR, I, L) := am_rG0 am_m172 d_172_95 am_f9266 rfl (gs_53 N) (by decide) rfl
theorem d_172_98 : am_code 172 98 = some (.iconst 1, 1) := by decide +kernel
theorem s_172_98 (cl : am_C) (ls : am_Ls) (st : List am_V) (h : am_H) : am_go0 cl 172 98 ls st h = am_go0 cl 172 99 ls (.inl 1 :: st) h := am_rK am_m172 d_172_98 (by decide) rfl _ _ _
theorem d_172_99 : am_code 172 99 = some (.iadd, 1) := by decide +kernel
theorem s_172_99 (cl : am_C) (ls : am_Ls) (x y : Int) (st : List am_V) (h : am_H) : am_go0 cl 172 99 ls (.inl y :: .inl x :: st) h = am_go0 cl 172 100 ls (.inl (am_wr (x + y)) :: st) h := am_r am_m172 d_172_99 rfl
theorem d_172_100 : am_code 172 100 = some (.putfield 266, 3) := by decide +kernel
theorem s_172_100 (cl : am_C) (ls : am_Ls) (v : Int) (st : List am_V) (N : Nat) (I : Nat → Int → Int) (L : Nat → Int → Int64) : am_go0 cl 172 100 ls (.inl v :: .inr (.inr (some 53)) :: st) (am_GS N, am_GR, I, L) = am_go0 cl 172 103 ls st (am_GS N, am_GR, am_uI I 53 53 v, L) := am_rP0 am_m172 d_172_100 am_f9266 rfl (gs_53 N) (by decide) rfl
theorem d_172_103 : am_code 172 103 = some (.return_, 1) := by decide +kernel
theorem s_172_103 (cl : am_C) (ls : am_Ls) (h : am_H) : am_go0 cl 172 103 ls [] h = some (none, h) := am_rE am_m172 d_172_103 rfl
theorem e_172 (d : Nat) (t : Nat) (h : am_H) : am_call (d + 1) 172 [.inr (.inr (some t))] h = am_go0 (am_call d) 172 0 [some (.inr (.inr (some t))), none, none] [] h := am_callE am_m172 (Nat.le_of_ble_eq_true rfl) rfl
theorem d_173_0 : am_code 173 0 = some (.aload_n 0, 1) := by decide +kernel
theorem s_173_0 (cl : am_C) (a1 a2 a3 a4 a5 : Option am_V) (x : Nat) (st : List am_V) (h : am_H) : am_go0 cl 173 0 [some (.inr (.inr (some x))), a1, a2, a3, a4, a5] st h = am_go0 cl 173 1 [some (.inr (.inr (some x))), a1, a2, a3, a4, a5] (.inr (.inr (some x)) :: st) h := am_r am_m173 d_173_0 rfl
theorem d_173_1 : am_code 173 1 = some (.getfield 127, 3) := by decide +kernel
theorem s_173_1 (cl : am_C) (ls : am_Ls) (st : List am_V) (N : Nat) (I : Nat → Int → Int) (L : Nat → Int → Int64) : am_go0 cl 173 1 ls (.inr (.inr (some 53)) :: st) (am_GS N, am_GR, I, L) = am_go0 cl 173 4 ls (.inr (.inr (some 89)) :: st) (am_GS N, am_GR, I, L) := am_rG2 am_m173 d_173_1 am_f9127 rfl (gs_53 N) (by decide) gr_53_44 rfl
theorem d_173_4 : am_code 173 4 = some (.aload_n 0, 1) := by decide +kernel
theorem s_173_4 (cl : am_C) (a1 a2 a3 a4 a5 : Option am_V) (x : Nat) (st : List am_V) (h : am_H) : am_go0 cl 173 4 [some (.inr (.inr (some x))), a1, a2, a3, a4, a5] st h = am_go0 cl 173 5 [some (.inr (.inr (some x))), a1, a2, a3, a4, a5] (.inr (.inr (some x)) :: st) h := am_r am_m173 d_173_4 rfl
theorem d_173_5 : am_code 173 5 = some (.getfield 232, 3) := by decide +kernel
theorem s_173_5 (cl : am_C) (ls : am_Ls) (st : List am_V) (N : Nat) (I : Nat → Int → Int) (L : Nat → Int → Int64) : am_go0 cl 173 5 ls (.inr (.inr (some 53)) :: st) (am_GS N, am_GR, I, L) = am_go0 cl 173 8 ls (.inl (I 53 45) :: st) (am_GS N, am_GR, I, L) := am_rG0 am_m173 d_173_5 am_f9232 rfl (gs_53 N) (by decide) rfl
theorem d_173_8 : am_code 173 8 = some (.iconst 1, 1) := by decide +kernel
theorem s_173_8 (cl : am_C) (ls : am_Ls) (st : List am_V) (h : am_H) : am_go0 cl 173 8 ls st h = am_go0 cl 173 9 ls (.inl 1 :: st) h := am_rK am_m173 d_173_8 (by decide) rfl _ _ _
theorem d_173_9 : am_code 173 9 = some (.isub, 1) := by decide +kernel
theorem s_173_9 (cl : am_C) (ls : am_Ls) (x y : Int) (st : List am_V) (h : am_H) : am_go0 cl 173 9 ls (.inl y :: .inl x :: st) h = am_go0 cl 173 10 ls (.inl (am_wr (x - y)) :: st) h := am_r am_m173 d_173_9 rfl
theorem d_173_10 : am_code 173 10 = some (.laload, 1) := by decide +kernel
theorem s_173_10 (cl : am_C) (ls : am_Ls) (i : Int) (k : Nat) (st : List am_V) (N : Nat) (I : Nat → Int → Int) (L : Nat → Int → Int64) : am_go0 cl 173 10 ls (.inl i :: .inr (.inr (some k)) :: st) (am_GS N, am_GR, I, L) = if am_inb (am_GS N) k 1 i = true then am_go0 cl 173 11 ls (.inr (.inl (L k i)) :: st) (am_GS N, am_GR, I, L) else none := am_rAl am_m173 d_173_10 rfl k ls st i _ _ I L
theorem d_173_11 : am_code 173 11 = some (.lstore_n 2, 1) := by decide +kernel
theorem s_173_11 (cl : am_C) (a0 a1 a2 a3 a4 a5 : Option am_V) (x : Int64) (st : List am_V) (h : am_H) : am_go0 cl 173 11 [a0, a1, a2, a3, a4, a5] (.inr (.inl x) :: st) h = am_go0 cl 173 12 [a0, am_c1 a1, some (.inr (.inl x)), none, a4, a5] st h := am_r am_m173 d_173_11 rfl
theorem d_173_12 : am_code 173 12 = some (.aload_n 0, 1) := by decide +kernel
theorem s_173_12 (cl : am_C) (a1 a2 a3 a4 a5 : Option am_V) (x : Nat) (st : List am_V) (h : am_H) : am_go0 cl 173 12 [some (.inr (.inr (some x))), a1, a2, a3, a4, a5] st h = am_go0 cl 173 13 [some (.inr (.inr (some x))), a1, a2, a3, a4, a5] (.inr (.inr (some x)) :: st) h := am_r am_m173 d_173_12 rfl
theorem d_173_13 : am_code 173 13 = some (.getfield 127, 3) := by decide +kernel
theorem s_173_13 (cl : am_C) (ls : am_Ls) (st : List am_V) (N : Nat) (I : Nat → Int → Int) (L : Nat → Int → Int64) : am_go0 cl 173 13 ls (.inr (.inr (some 53)) :: st) (am_GS N, am_GR, I, L) = am_go0 cl 173 16 ls (.inr (.inr (some 89)) :: st) (am_GS N, am_GR, I, L) := am_rG2 am_m173 d_173_13 am_f9127 rfl (gs_53 N) (by decide) gr_53_44 rfl
theorem d_173_16 : am_code 173 16 = some (.aload_n 0, 1) := by decide +kernel
theorem s_173_16 (cl : am_C) (a1 a2 a3 a4 a5 : Option am_V) (x : Nat) (st : List am_V) (h : am_H) : am_go0 cl 173 16 [some (.inr (.inr (some x))), a1, a2, a3, a4, a5] st h = am_go0 cl 173 17 [some (.inr (.inr (some x))), a1, a2, a3, a4, a5] (.inr (.inr (some x)) :: st) h := am_r am_m173 d_173_16 rfl
theorem d_173_17 : am_code 173 17 = some (.getfield 232, 3) := by decide +kernel
theorem s_173_17 (cl : am_C) (ls : am_Ls) (st : List am_V) (N : Nat) (I : Nat → Int → Int) (L : Nat → Int → Int64) : am_go0 cl 173 17 ls (.inr (.inr (some 53)) :: st) (am_GS N, am_GR, I, L) = am_go0 cl 173 20 ls (.inl (I 53 45) :: st) (am_GS N, am_GR, I, L) := am_rG0 am_m173 d_173_17 am_f9232 rfl (gs_53 N) (by decide) rfl
theorem d_173_20 : am_code 173 20 = some (.iconst 2, 1) := by decide +kernel
theorem s_173_20 (cl : am_C) (ls : am_Ls) (st : List am_V) (h : am_H) : am_go0 cl 173 20 ls st h = am_go0 cl 173 21 ls (.inl 2 :: st) h := am_rK am_m173 d_173_20 (by decide) rfl _ _ _
theorem d_173_21 : am_code 173 21 = some (.isub, 1) := by decide +kernel
theorem s_173_21 (cl : am_C) (ls : am_Ls) (x y : Int) (st : List am_V) (h : am_H) : am_go0 cl 173 21 ls (.inl y :: .inl x :: st) h = am_go0 cl 173 22 ls (.inl (am_wr (x - y)) :: st) h := am_r am_m173 d_173_21 rfl
theorem d_173_22 : am_code 173 22 = some (.laload, 1) := by decide +kernel
theorem s_173_22 (cl : am_C) (ls : am_Ls) (i : Int) (k : Nat) (st : List am_V) (N : Nat) (I : Nat → Int → Int) (L : Nat → Int → Int64) : am_go0 cl 173 22 ls (.inl i :: .inr (.inr (some k)) :: st) (am_GS N, am_GR, I, L) = if am_inb (am_GS N) k 1 i = true then am_go0 cl 173 23 ls (.inr (.inl (L k i)) :: st) (am_GS N, am_GR, I, L) else none := am_rAl am_m173 d_173_22 rfl k ls st i _ _ I L
theorem d_173_23 : am_code 173 23 = some (.lstore 4, 2) := by decide +kernel
theorem s_173_23 (cl : am_C) (a0 a1 a2 a3 a4 a5 : Option am_V) (x : Int64) (st : List am_V) (h : am_H) : am_go0 cl 173 23 [a0, a1, a2, a3, a4, a5] (.inr (.inl x) :: st) h = am_go0 cl 173 25 [a0, a1, a2, am_c1 a3, some (.inr (.inl x)), none] st h := am_r am_m173 d_173_23 rfl
theorem d_173_25 : am_code 173 25 = some (.aload_n 0, 1) := by decide +kernel
theorem s_173_25 (cl : am_C) (a1 a2 a3 a4 a5 : Option am_V) (x : Nat) (st : List am_V) (h : am_H) : am_go0 cl 173 25 [some (.inr (.inr (some x))), a1, a2, a3, a4, a5] st h = am_go0 cl 173 26 [some (.inr (.inr (some x))), a1, a2, a3, a4, a5] (.inr (.inr (some x)) :: st) h := am_r am_m173 d_173_25 rfl
theorem d_173_26 : am_code 173 26 = some (.dup, 1) := by decide +kernel
theorem s_173_26 (cl : am_C) (ls : am_Ls) (x : Nat) (st : List am_V) (h : am_H) : am_go0 cl 173 26 ls (.inr (.inr (some x)) :: st) h = am_go0 cl 173 27 ls (.inr (.inr (some x)) :: .inr (.inr (some x)) :: st) h := am_r am_m173 d_173_26 rfl
theorem d_173_27 : am_code 173 27 = some (.getfield 232, 3) := by decide +kernel
theorem s_173_27 (cl : am_C) (ls : am_Ls) (st : List am_V) (N : Nat) (I : Nat → Int → Int) (L : Nat → Int → Int64) : am_go0 cl 173 27 ls (.inr (.inr (some 53)) :: st) (am_GS N, am_GR, I, L) = am_go0 cl 173 30 ls (.inl (I 53 45) :: st) (am_GS N, am_GR, I, L) := am_rG0 am_m173 d_173_27 am_f9232 rfl (gs_53 N) (by decide) rfl
theorem d_173_30 : am_code 173 30 = some (.iconst 2, 1) := by decide +kernel
theorem s_173_30 (cl : am_C) (ls : am_Ls) (st : List am_V) (h : am_H) : am_go0 cl 173 30 ls st h = am_go0 cl 173 31 ls (.inl 2 :: st) h := am_rK am_m173 d_173_30 (by decide) rfl _ _ _
theorem d_173_31 : am_code 173 31 = some (.isub, 1) := by decide +kernel
theorem s_173_31 (cl : am_C) (ls : am_Ls) (x y : Int) (st : List am_V) (h : am_H) : am_go0 cl 173 31 ls (.inl y :: .inl x :: st) h = am_go0 cl 173 32 ls (.inl (am_wr (x - y)) :: st) h := am_r am_m173 d_173_31 rfl
theorem d_173_32 : am_code 173 32 = some (.putfield 232, 3) := by decide +kernel
theorem s_173_32 (cl : am_C) (ls : am_Ls) (v : Int) (st : List am_V) (N : Nat) (I : Nat → Int → Int) (L : Nat → Int → Int64) : am_go0 cl 173 32 ls (.inl v :: .inr (.inr (some 53)) :: st) (am_GS N, am_GR, I, L) = am_go0 cl 173 35 ls st (am_GS N, am_GR, am_uI I 53 45 v, L) := am_rP0 am_m173 d_173_32 am_f9232 rfl (gs_53 N) (by decide) rfl
theorem d_173_35 : am_code 173 35 = some (.aload_n 0, 1) := by decide +kernel
theorem s_173_35 (cl : am_C) (a1 a2 a3 a4 a5 : Option am_V) (x : Nat) (st : List am_V) (h : am_H) : am_go0 cl 173 35 [some (.inr (.inr (some x))), a1, a2, a3, a4, a5] st h = am_go0 cl 173 36 [some (.inr (.inr (some x))), a1, a2, a3, a4, a5] (.inr (.inr (some x)) :: st) h := am_r am_m173 d_173_35 rfl
theorem d_173_36 : am_code 173 36 = some (.getfield 65, 3) := by decide +kernel
theorem s_173_36 (cl : am_C) (ls : am_Ls) (st : List am_V) (N : Nat) (I : Nat → Int → Int) (L : Nat → Int → Int64) : am_go0 cl 173 36 ls (.inr (.inr (some 53)) :: st) (am_GS N, am_GR, I, L) = am_go0 cl 173 39 ls (.inr (.inr (some 71)) :: st) (am_GS N, am_GR, I, L) := am_rG2 am_m173 d_173_36 am_f9065 rfl (gs_53 N) (by decide) gr_53_22 rfl
theorem d_173_39 : am_code 173 39 = some (.iload_n 1, 1) := by decide +kernel
theorem s_173_39 (cl : am_C) (a0 a2 a3 a4 a5 : Option am_V) (x : Int) (st : List am_V) (h : am_H) : am_go0 cl 173 39 [a0, some (.inl x), a2, a3, a4, a5] st h = am_go0 cl 173 40 [a0, some (.inl x), a2, a3, a4, a5] (.inl x :: st) h := am_r am_m173 d_173_39 rfl
theorem d_173_40 : am_code 173 40 = some (.iaload, 1) := by decide +kernel
theorem s_173_40 (cl : am_C) (ls : am_Ls) (i : Int) (k : Nat) (st : List am_V) (N : Nat) (I : Nat → Int → Int) (L : Nat → Int → Int64) : am_go0 cl 173 40 ls (.inl i :: .inr (.inr (some k)) :: st) (am_GS N, am_GR, I, L) = if am_inb (am_GS N) k 0 i = true then am_go0 cl 173 41 ls (.inl (I k i) :: st) (am_GS N, am_GR, I, L) else none := am_rA am_m173 d_173_40 (by decide) rfl k ls st i _ _ I L
theorem d_173_41 : am_code 173 41 = some (.bipush 8, 2) := by decide +kernel
theorem s_173_41 (cl : am_C) (ls : am_Ls) (st : List am_V) (h : am_H) : am_go0 cl 173 41 ls st h = am_go0 cl 173 43 ls (.inl 8 :: st) h := am_rB am_m173 d_173_41 (by decide) rfl _ _ _
theorem d_173_43 : am_code 173 43 = some (.if_icmp .ne 15, 3) := by decide +kernel
theorem s_173_43 (cl : am_C) (ls : am_Ls) (x y : Int) (st : List am_V) (h : am_H) : am_go0 cl 173 43 ls (.inl y :: .inl x :: st) h = if x = y then am_go0 cl 173 46 ls st h else am_go0 cl 173 58 ls st h := (am_rJ0 am_m173 d_173_43 (by decide) rfl x y ls st h).trans (am_ifF ((am_cmp_ne x y).trans Iff.rfl) _ _)
theorem d_173_46 : am_code 173 46 = some (.lload_n 2, 1) := by decide +kernel
theorem s_173_46 (cl : am_C) (a0 a1 a3 a4 a5 : Option am_V) (x : Int64) (st : List am_V) (h : am_H) : am_go0 cl 173 46 [a0, a1, some (.inr (.inl x)), a3, a4, a5] st h = am_go0 cl 173 47 [a0, a1, some (.inr (.inl x)), a3, a4, a5] (.inr (.inl x) :: st) h := am_r am_m173 d_173_46 rfl
theorem d_173_47 : am_code 173 47 = some (.lconst 0, 1) := by decide +kernel
theorem s_173_47 (cl : am_C) (ls : am_Ls) (st : List am_V) (h : am_H) : am_go0 cl 173 47 ls st h = am_go0 cl 173 48 ls (.inr (.inl 0) :: st) h := am_r am_m173 d_173_47 rfl
theorem d_173_48 : am_code 173 48 = some (.lcmp, 1) := by decide +kernel
theorem s_173_48 (cl : am_C) (ls : am_Ls) (x y : Int64) (st : List am_V) (h : am_H) : am_go0 cl 173 48 ls (.inr (.inl y) :: .inr (.inl x) :: st) h = am_go0 cl 173 49 ls (.inl (lg_cmp x y).toInt :: st) h := am_r am_m173 d_173_48 rfl
theorem d_173_49 : am_code 173 49 = some (.ifCond .ne 9, 3) := by decide +kernel
theorem s_173_49 (cl : am_C) (ls : am_Ls) (x : Int) (st : List am_V) (h : am_H) : am_go0 cl 173 49 ls (.inl x :: st) h = if x = 0 then am_go0 cl 173 52 ls st h else am_go0 cl 173 58 ls st h := (am_rJ1 am_m173 d_173_49 (by decide) rfl x ls st h).trans (am_ifF ((am_cmp_ne x 0).trans Iff.rfl) _ _)
theorem d_173_52 : am_code 173 52 = some (.aload_n 0, 1) := by decide +kernel
theorem s_173_52 (cl : am_C) (a1 a2 a3 a4 a5 : Option am_V) (x : Nat) (st : List am_V) (h : am_H) : am_go0 cl 173 52 [some (.inr (.inr (some x))), a1, a2, a3, a4, a5] st h = am_go0 cl 173 53 [some (.inr (.inr (some x))), a1, a2, a3, a4, a5] (.inr (.inr (some x)) :: st) h := am_r am_m173 d_173_52 rfl
theorem d_173_53 : am_code 173 53 = some (.iconst 3, 1) := by decide +kernel
theorem s_173_53 (cl : am_C) (ls : am_Ls) (st : List am_V) (h : am_H) : am_go0 cl 173 53 ls st h = am_go0 cl 173 54 ls (.inl 3 :: st) h := am_rK am_m173 d_173_53 (by decide) rfl _ _ _
theorem d_173_54 : am_code 173 54 = some (.invokevirtual 256, 3) := by decide +kernel
theorem s_173_54 (cl : am_C) (ls : am_Ls) (x0 : Int) (N : Nat) (I : Nat → Int → Int) (L : Nat → Int → Int64) : am_go0 cl 173 54 ls [.inl x0, .inr (.inr (some 53))] (am_GS N, am_GR, I, L) = am_bd (cl 174 [.inr (.inr (some 53)), .inl x0] (am_GS N, am_GR, I, L)) (fun v h2 => am_go0 cl 173 57 ls (v.toList ++ []) h2) := am_rV am_m173 d_173_54 am_k9256 rfl am_m174 (gs_53 N) (by decide) (Nat.le_of_ble_eq_true rfl) rfl ls
theorem d_173_57 : am_code 173 57 = some (.return_, 1) := by decide +kernel
theorem s_173_57 (cl : am_C) (ls : am_Ls) (h : am_H) : am_go0 cl 173 57 ls [] h = some (none, h) := am_rE am_m173 d_173_57 rfl
theorem d_173_58 : am_code 173 58 = some (.aload_n 0, 1) := by decide +kernel
theorem s_173_58 (cl : am_C) (a1 a2 a3 a4 a5 : Option am_V) (x : Nat) (st : List am_V) (h : am_H) : am_go0 cl 173 58 [some (.inr (.inr (some x))), a1, a2, a3, a4, a5] st h = am_go0 cl 173 59 [some (.inr (.inr (some x))), a1, a2, a3, a4, a5] (.inr (.inr (some x)) :: st) h := am_r am_m173 d_173_58 rfl
theorem d_173_59 : am_code 173 59 = some (.aload_n 0, 1) := by decide +kernel
theorem s_173_59 (cl : am_C) (a1 a2 a3 a4 a5 : Option am_V) (x : Nat) (st : List am_V) (h : am_H) : am_go0 cl 173 59 [some (.inr (.inr (some x))), a1, a2, a3, a4, a5] st h = am_go0 cl 173 60 [some (.inr (.inr (some x))), a1, a2, a3, a4, a5] (.inr (.inr (some x)) :: st) h := am_r am_m173 d_173_59 rfl
theorem d_173_60 : am_code 173 60 = some (.getfield 65, 3) := by decide +kernel
theorem s_173_60 (cl : am_C) (ls : am_Ls) (st : List am_V) (N : Nat) (I : Nat → Int → Int) (L : Nat → Int → Int64) : am_go0 cl 173 60 ls (.inr (.inr (some 53)) :: st) (am_GS N, am_GR, I, L) = am_go0 cl 173 63 ls (.inr (.inr (some 71)) :: st) (am_GS N, am_GR, I, L) := am_rG2 am_m173 d_173_60 am_f9065 rfl (gs_53 N) (by decide) gr_53_22 rfl
theorem d_173_63 : am_code 173 63 = some (.iload_n 1, 1) := by decide +kernel
theorem s_173_63 (cl : am_C) (a0 a2 a3 a4 a5 : Option am_V) (x : Int) (st : List am_V) (h : am_H) : am_go0 cl 173 63 [a0, some (.inl x), a2, a3, a4, a5] st h = am_go0 cl 173 64 [a0, some (.inl x), a2, a3, a4, a5] (.inl x :: st) h := am_r am_m173 d_173_63 rfl
theorem d_173_64 : am_code 173 64 = some (.iaload, 1) := by decide +kernel
theorem s_173_64 (cl : am_C) (ls : am_Ls) (i : Int) (k : Nat) (st : List am_V) (N : Nat) (I : Nat → Int → Int) (L : Nat → Int → Int64) : am_go0 cl 173 64 ls (.inl i :: .inr (.inr (some k)) :: st) (am_GS N, am_GR, I, L) = if am_inb (am_GS N) k 0 i = true then am_go0 cl 173 65 ls (.inl (I k i) :: st) (am_GS N, am_GR, I, L) else none := am_rA am_m173 d_173_64 (by decide) rfl k ls st i _ _ I L
theorem d_173_65 : am_code 173 65 = some (.iconst 5, 1) := by decide +kernel
theorem s_173_65 (cl : am_C) (ls : am_Ls) (st : List am_V) (h : am_H) : am_go0 cl 173 65 ls st h = am_go0 cl 173 66 ls (.inl 5 :: st) h := am_rK am_m173 d_173_65 (by decide) rfl _ _ _
theorem d_173_66 : am_code 173 66 = some (.if_icmp .ne 10, 3) := by decide +kernel
theorem s_173_66 (cl : am_C) (ls : am_Ls) (x y : Int) (st : List am_V) (h : am_H) : am_go0 cl 173 66 ls (.inl y :: .inl x :: st) h = if x = y then am_go0 cl 173 69 ls st h else am_go0 cl 173 76 ls st h := (am_rJ0 am_m173 d_173_66 (by decide) rfl x y ls st h).trans (am_ifF ((am_cmp_ne x y).trans Iff.rfl) _ _)
theorem d_173_69 : am_code 173 69 = some (.lload 4, 2) := by decide +kernel
theorem s_173_69 (cl : am_C) (a0 a1 a2 a3 a5 : Option am_V) (x : Int64) (st : List am_V) (h : am_H) : am_go0 cl 173 69 [a0, a1, a2, a3, some (.inr (.inl x)), a5] st h = am_go0 cl 173 71 [a0, a1, a2, a3, some (.inr (.inl x)), a5] (.inr (.inl x) :: st) h := am_r am_m173 d_173_69 rfl
theorem d_173_71 : am_code 173 71 = some (.lload_n 2, 1) := by decide +kernel
theorem s_173_71 (cl : am_C) (a0 a1 a3 a4 a5 : Option am_V) (x : Int64) (st : List am_V) (h : am_H) : am_go0 cl 173 71 [a0, a1, some (.inr (.inl x)), a3, a4, a5] st h = am_go0 cl 173 72 [a0, a1, some (.inr (.inl x)), a3, a4, a5] (.inr (.inl x) :: st) h := am_r am_m173 d_173_71 rfl
theorem d_173_72 : am_code 173 72 = some (.ladd, 1) := by decide +kernel
theorem s_173_72 (cl : am_C) (ls : am_Ls) (x y : Int64) (st : List am_V) (h : am_H) : am_go0 cl 173 72 ls (.inr (.inl y) :: .inr (.inl x) :: st) h = am_go0 cl 173 73 ls (.inr (.inl (x + y)) :: st) h := am_r am_m173 d_173_72 rfl
theorem d_173_73 : am_code 173 73 = some (.goto 43, 3) := by decide +kernel
theorem s_173_73 (cl : am_C) (ls : am_Ls) (st : List am_V) (h : am_H) : am_go0 cl 173 73 ls st h = am_go0 cl 173 116 ls st h := am_rGo am_m173 d_173_73 (by decide) _ _ _
theorem d_173_76 : am_code 173 76 = some (.aload_n 0, 1) := by decide +kernel
theorem s_173_76 (cl : am_C) (a1 a2 a3 a4 a5 : Option am_V) (x : Nat) (st : List am_V) (h : am_H) : am_go0 cl 173 76 [some (.inr (.inr (some x))), a1, a2, a3, a4, a5] st h = am_go0 cl 173 77 [some (.inr (.inr (some x))), a1, a2, a3, a4, a5] (.inr (.inr (some x)) :: st) h := am_r am_m173 d_173_76 rfl
theorem d_173_77 : am_code 173 77 = some (.getfield 65, 3) := by decide +kernel
theorem s_173_77 (cl : am_C) (ls : am_Ls) (st : List am_V) (N : Nat) (I : Nat → Int → Int) (L : Nat → Int → Int64) : am_go0 cl 173 77 ls (.inr (.inr (some 53)) :: st) (am_GS N, am_GR, I, L) = am_go0 cl 173 80 ls (.inr (.inr (some 71)) :: st) (am_GS N, am_GR, I, L) := am_rG2 am_m173 d_173_77 am_f9065 rfl (gs_53 N) (by decide) gr_53_22 rfl
theorem d_173_80 : am_code 173 80 = some (.iload_n 1, 1) := by decide +kernel
theorem s_173_80 (cl : am_C) (a0 a2 a3 a4 a5 : Option am_V) (x : Int) (st : List am_V) (h : am_H) : am_go0 cl 173 80 [a0, some (.inl x), a2, a3, a4, a5] st h = am_go0 cl 173 81 [a0, some (.inl x), a2, a3, a4, a5] (.inl x :: st) h := am_r am_m173 d_173_80 rfl
theorem d_173_81 : am_code 173 81 = some (.iaload, 1) := by decide +kernel
theorem s_173_81 (cl : am_C) (ls : am_Ls) (i : Int) (k : Nat) (st : List am_V) (N : Nat) (I : Nat → Int → Int) (L : Nat → Int → Int64) : am_go0 cl 173 81 ls (.inl i :: .inr (.inr (some k)) :: st) (am_GS N, am_GR, I, L) = if am_inb (am_GS N) k 0 i = true then am_go0 cl 173 82 ls (.inl (I k i) :: st) (am_GS N, am_GR, I, L) else none := am_rA am_m173 d_173_81 (by decide) rfl k ls st i _ _ I L
theorem d_173_82 : am_code 173 82 = some (.bipush 6, 2) := by decide +kernel
theorem s_173_82 (cl : am_C) (ls : am_Ls) (st : List am_V) (h : am_H) : am_go0 cl 173 82 ls st h = am_go0 cl 173 84 ls (.inl 6 :: st) h := am_rB am_m173 d_173_82 (by decide) rfl _ _ _
theorem d_173_84 : am_code 173 84 = some (.if_icmp .ne 10, 3) := by decide +kernel
theorem s_173_84 (cl : am_C) (ls : am_Ls) (x y : Int) (st : List am_V) (h : am_H) : am_go0 cl 173 84 ls (.inl y :: .inl x :: st) h = if x = y then am_go0 cl 173 87 ls st h else am_go0 cl 173 94 ls st h := (am_rJ0 am_m173 d_173_84 (by decide) rfl x y ls st h).trans (am_ifF ((am_cmp_ne x y).trans Iff.rfl) _ _)
theorem d_173_87 : am_code 173 87 = some (.lload 4, 2) := by decide +kernel
theorem s_173_87 (cl : am_C) (a0 a1 a2 a3 a5 : Option am_V) (x : Int64) (st : List am_V) (h : am_H) : am_go0 cl 173 87 [a0, a1, a2, a3, some (.inr (.inl x)), a5] st h = am_go0 cl 173 89 [a0, a1, a2, a3, some (.inr (.inl x)), a5] (.inr (.inl x) :: st) h := am_r am_m173 d_173_87 rfl
theorem d_173_89 : am_code 173 89 = some (.lload_n 2, 1) := by decide +kernel
theorem s_173_89 (cl : am_C) (a0 a1 a3 a4 a5 : Option am_V) (x : Int64) (st : List am_V) (h : am_H) : am_go0 cl 173 89 [a0, a1, some (.inr (.inl x)), a3, a4, a5] st h = am_go0 cl 173 90 [a0, a1, some (.inr (.inl x)), a3, a4, a5] (.inr (.inl x) :: st) h := am_r am_m173 d_173_89 rfl
theorem d_173_90 : am_code 173 90 = some (.lsub, 1) := by decide +kernel
theorem s_173_90 (cl : am_C) (ls : am_Ls) (x y : Int64) (st : List am_V) (h : am_H) : am_go0 cl 173 90 ls (.inr (.inl y) :: .inr (.inl x) :: st) h = am_go0 cl 173 91 ls (.inr (.inl (x - y)) :: st) h := am_r am_m173 d_173_90 rfl
theorem d_173_91 : am_code 173 91 = some (.goto 25, 3) := by decide +kernel
theorem s_173_91 (cl : am_C) (ls : am_Ls) (st : List am_V) (h : am_H) : am_go0 cl 173 91 ls st h = am_go0 cl 173 116 ls st h := am_rGo am_m173 d_173_91 (by decide) _ _ _
theorem d_173_94 : am_code 173 94 = some (.aload_n 0, 1) := by decide +kernel
theorem s_173_94 (cl : am_C) (a1 a2 a3 a4 a5 : Option am_V) (x : Nat) (st : List am_V) (h : am_H) : am_go0 cl 173 94 [some (.inr (.inr (some x))), a1, a2, a3, a4, a5] st h = am_go0 cl 173 95 [some (.inr (.inr (some x))), a1, a2, a3, a4, a5] (.inr (.inr (some x)) :: st) h := am_r am_m173 d_173_94 rfl
theorem d_173_95 : am_code 173 95 = some (.getfield 65, 3) := by decide +kernel
theorem s_173_95 (cl : am_C) (ls : am_Ls) (st : List am_V) (N : Nat) (I : Nat → Int → Int) (L : Nat → Int → Int64) : am_go0 cl 173 95 ls (.inr (.inr (some 53)) :: st) (am_GS N, am_GR, I, L) = am_go0 cl 173 98 ls (.inr (.inr (some 71)) :: st) (am_GS N, am_GR, I, L) := am_rG2 am_m173 d_173_95 am_f9065 rfl (gs_53 N) (by decide) gr_53_22 rfl
theorem d_173_98 : am_code 173 98 = some (.iload_n 1, 1) := by decide +kernel
theorem s_173_98 (cl : am_C) (a0 a2 a3 a4 a5 : Option am_V) (x : Int) (st : List am_V) (h : am_H) : am_go0 cl 173 98 [a0, some (.inl x), a2, a3, a4, a5] st h = am_go0 cl 173 99 [a0, some (.inl x), a2, a3, a4, a5] (.inl x :: st) h := am_r am_m173 d_173_98 rfl
theorem d_173_99 : am_code 173 99 = some (.iaload, 1) := by decide +kernel
theorem s_173_99 (cl : am_C) (ls : am_Ls) (i : Int) (k : Nat) (st : List am_V) (N : Nat) (I : Nat → Int → Int) (L : Nat → Int → Int64) : am_go0 cl 173 99 ls (.inl i :: .inr (.inr (some k)) :: st) (am_GS N, am_GR, I, L) = if am_inb (am_GS N) k 0 i = true then am_go0 cl 173 100 ls (.inl (I k i) :: st) (am_GS N, am_GR, I, L) else none := am_rA am_m173 d_173_99 (by decide) rfl k ls st i _ _ I L
theorem d_173_100 : am_code 173 100 = some (.bipush 7, 2) := by decide +kernel
theorem s_173_100 (cl : am_C) (ls : am_Ls) (st : List am_V) (h : am_H) : am_go0 cl 173 100 ls st h = am_go0 cl 173 102 ls (.inl 7 :: st) h := am_rB am_m173 d_173_100 (by decide) rfl _ _ _
theorem d_173_102 : am_code 173 102 = some (.if_icmp .ne 10, 3) := by decide +kernel
theorem s_173_102 (cl : am_C) (ls : am_Ls) (x y : Int) (st : List am_V) (h : am_H) : am_go0 cl 173 102 ls (.inl y :: .inl x :: st) h = if x = y then am_go0 cl 173 105 ls st h else am_go0 cl 173 112 ls st h := (am_rJ0 am_m173 d_173_102 (by decide) rfl x y ls st h).trans (am_ifF ((am_cmp_ne x y).trans Iff.rfl) _ _)
theorem d_173_105 : am_code 173 105 = some (.lload 4, 2) := by decide +kernel
theorem s_173_105 (cl : am_C) (a0 a1 a2 a3 a5 : Option am_V) (x : Int64) (st : List am_V) (h : am_H) : am_go0 cl 173 105 [a0, a1, a2, a3, some (.inr (.inl x)), a5] st h = am_go0 cl 173 107 [a0, a1, a2, a3, some (.inr (.inl x)), a5] (.inr (.inl x) :: st) h := am_r am_m173 d_173_105 rfl
theorem d_173_107 : am_code 173 107 = some (.lload_n 2, 1) := by decide +kernel
theorem s_173_107 (cl : am_C) (a0 a1 a3 a4 a5 : Option am_V) (x : Int64) (st : List am_V) (h : am_H) : am_go0 cl 173 107 [a0, a1, some (.inr (.inl x)), a3, a4, a5] st h = am_go0 cl 173 108 [a0, a1, some (.inr (.inl x)), a3, a4, a5] (.inr (.inl x) :: st) h := am_r am_m173 d_173_107 rfl
theorem d_173_108 : am_code 173 108 = some (.lmul, 1) := by decide +kernel
theorem s_173_108 (cl : am_C) (ls : am_Ls) (x y : Int64) (st : List am_V) (h : am_H) : am_go0 cl 173 108 ls (.inr (.inl y) :: .inr (.inl x) :: st) h = am_go0 cl 173 109 ls (.inr (.inl (x * y)) :: st) h := am_r am_m173 d_173_108 rfl
theorem d_173_109 : am_code 173 109 = some (.goto 7, 3) := by decide +kernel
theorem s_173_109 (cl : am_C) (ls : am_Ls) (st : List am_V) (h : am_H) : am_go0 cl 173 109 ls st h = am_go0 cl 173 116 ls st h := am_rGo am_m173 d_173_109 (by decide) _ _ _
theorem d_173_112 : am_code 173 112 = some (.lload 4, 2) := by decide +kernel
theorem s_173_112 (cl : am_C) (a0 a1 a2 a3 a5 : Option am_V) (x : Int64) (st : List am_V) (h : am_H) : am_go0 cl 173 112 [a0, a1, a2, a3, some (.inr (.inl x)), a5] st h = am_go0 cl 173 114 [a0, a1, a2, a3, some (.inr (.inl x)), a5] (.inr (.inl x) :: st) h := am_r am_m173 d_173_112 rfl
theorem d_173_114 : am_code 173 114 = some (.lload_n 2, 1) := by decide +kernel
theorem s_173_114 (cl : am_C) (a0 a1 a3 a4 a5 : Option am_V) (x : Int64) (st : List am_V) (h : am_H) : am_go0 cl 173 114 [a0, a1, some (.inr (.inl x)), a3, a4, a5] st h = am_go0 cl 173 115 [a0, a1, some (.inr (.inl x)), a3, a4, a5] (.inr (.inl x) :: st) h := am_r am_m173 d_173_114 rfl
theorem d_173_115 : am_code 173 115 = some (.ldiv, 1) := by decide +kernel
theorem s_173_115 (cl : am_C) (ls : am_Ls) (x y : Int64) (st : List am_V) (h : am_H) (q : ¬ y = 0) : am_go0 cl 173 115 ls (.inr (.inl y) :: .inr (.inl x) :: st) h = am_go0 cl 173 116 ls (.inr (.inl (x / y)) :: st) h := am_r am_m173 d_173_115 (by simp [am_next, am_go, q])
theorem d_173_116 : am_code 173 116 = some (.invokevirtual 238, 3) := by decide +kernel
theorem s_173_116 (cl : am_C) (ls : am_Ls) (x0 : Int64) (N : Nat) (I : Nat → Int → Int) (L : Nat → Int → Int64) : am_go0 cl 173 116 ls [.inr (.inl x0), .inr (.inr (some 53))] (am_GS N, am_GR, I, L) = am_bd (cl 169 [.inr (.inr (some 53)), .inr (.inl x0)] (am_GS N, am_GR, I, L)) (fun v h2 => am_go0 cl 173 119 ls (v.toList ++ []) h2) := am_rV am_m173 d_173_116 am_k9238 rfl am_m169 (gs_53 N) (by decide) (Nat.le_of_ble_eq_true rfl) rfl ls
theorem d_173_119 : am_code 173 119 = some (.return_, 1) := by decide +kernel
theorem s_173_119 (cl : am_C) (ls : am_Ls) (h : am_H) : am_go0 cl 173 119 ls [] h = some (none, h) := am_rE am_m173 d_173_119 rfl
theorem e_173 (d : Nat) (t : Nat) (p0 : Int) (h : am_H) : am_call (d + 1) 173 [.inr (.inr (some t)), .inl p0] h = am_go0 (am_call d) 173 0 [some (.inr (.inr (some t))), some (.inl p0), none, none, none, none] [] h := am_callE am_m173 (Nat.le_of_ble_eq_true rfl) rfl
theorem d_174_0 : am_code 174 0 = some (.aload_n 0, 1) := by decide +kernel
theorem s_174_0 (cl : am_C) (a1 : Option am_V) (x : Nat) (st : List am_V) (h : am_H) : am_go0 cl 174 0 [some (.inr (.inr (some x))), a1] st h = am_go0 cl 174 1 [some (.inr (.inr (some x))), a1] (.inr (.inr (some x)) :: st) h := am_r am_m174 d_174_0 rfl
theorem d_174_1 : am_code 174 1 = some (.iload_n 1, 1) := by decide +kernel
theorem s_174_1 (cl : am_C) (a0 : Option am_V) (x : Int) (st : List am_V) (h : am_H) : am_go0 cl 174 1 [a0, some (.inl x)] st h = am_go0 cl 174 2 [a0, some (.inl x)] (.inl x :: st) h := am_r am_m174 d_174_1 rfl
theorem d_174_2 : am_code 174 2 = some (.aload_n 0, 1) := by decide +kernel
theorem s_174_2 (cl : am_C) (a1 : Option am_V) (x : Nat) (st : List am_V) (h : am_H) : am_go0 cl 174 2 [some (.inr (.inr (some x))), a1] st h = am_go0 cl 174 3 [some (.inr (.inr (some x))), a1] (.inr (.inr (some x)) :: st) h := am_r am_m174 d_174_2 rfl
theorem d_174_3 : am_code 174 3 = some (.getfield 130, 3) := by decide +kernel
theorem s_174_3 (cl : am_C) (ls : am_Ls) (st : List am_V) (N : Nat) (I : Nat → Int → Int) (L : Nat → Int → Int64) : am_go0 cl 174 3 ls (.inr (.inr (some 53)) :: st) (am_GS N, am_GR, I, L) = am_go0 cl 174 6 ls (.inr (.inr (some 90)) :: st) (am_GS N, am_GR, I, L) := am_rG2 am_m174 d_174_3 am_f9130 rfl (gs_53 N) (by decide) gr_53_46 rfl
theorem d_174_6 : am_code 174 6 = some (.aload_n 0, 1) := by decide +kernel
theorem s_174_6 (cl : am_C) (a1 : Option am_V) (x : Nat) (st : List am_V) (h : am_H) : am_go0 cl 174 6 [some (.inr (.inr (some x))), a1] st h = am_go0 cl 174 7 [some (.inr (.inr (some x))), a1] (.inr (.inr (some x)) :: st) h := am_r am_m174 d_174_6 rfl
theorem d_174_7 : am_code 174 7 = some (.getfield 242, 3) := by decide +kernel
theorem s_174_7 (cl : am_C) (ls : am_Ls) (st : List am_V) (N : Nat) (I : Nat → Int → Int) (L : Nat → Int → Int64) : am_go0 cl 174 7 ls (.inr (.inr (some 53)) :: st) (am_GS N, am_GR, I, L) = am_go0 cl 174 10 ls (.inl (I 53 49) :: st) (am_GS N, am_GR, I, L) := am_rG0 am_m174 d_174_7 am_f9242 rfl (gs_53 N) (by decide) rfl
theorem d_174_10 : am_code 174 10 = some (.iconst 1, 1) := by decide +kernel
theorem s_174_10 (cl : am_C) (ls : am_Ls) (st : List am_V) (h : am_H) : am_go0 cl 174 10 ls st h = am_go0 cl 174 11 ls (.inl 1 :: st) h := am_rK am_m174 d_174_10 (by decide) rfl _ _ _
theorem d_174_11 : am_code 174 11 = some (.isub, 1) := by decide +kernel
theorem s_174_11 (cl : am_C) (ls : am_Ls) (x y : Int) (st : List am_V) (h : am_H) : am_go0 cl 174 11 ls (.inl y :: .inl x :: st) h = am_go0 cl 174 12 ls (.inl (am_wr (x - y)) :: st) h := am_r am_m174 d_174_11 rfl
theorem d_174_12 : am_code 174 12 = some (.iaload, 1) := by decide +kernel
theorem s_174_12 (cl : am_C) (ls : am_Ls) (i : Int) (k : Nat) (st : List am_V) (N : Nat) (I : Nat → Int → Int) (L : Nat → Int → Int64) : am_go0 cl 174 12 ls (.inl i :: .inr (.inr (some k)) :: st) (am_GS N, am_GR, I, L) = if am_inb (am_GS N) k 0 i = true then am_go0 cl 174 13 ls (.inl (I k i) :: st) (am_GS N, am_GR, I, L) else none := am_rA am_m174 d_174_12 (by decide) rfl k ls st i _ _ I L
theorem d_174_13 : am_code 174 13 = some (.aload_n 0, 1) := by decide +kernel
theorem s_174_13 (cl : am_C) (a1 : Option am_V) (x : Nat) (st : List am_V) (h : am_H) : am_go0 cl 174 13 [some (.inr (.inr (some x))), a1] st h = am_go0 cl 174 14 [some (.inr (.inr (some x))), a1] (.inr (.inr (some x)) :: st) h := am_r am_m174 d_174_13 rfl
theorem d_174_14 : am_code 174 14 = some (.getfield 133, 3) := by decide +kernel
theorem s_174_14 (cl : am_C) (ls : am_Ls) (st : List am_V) (N : Nat) (I : Nat → Int → Int) (L : Nat → Int → Int64) : am_go0 cl 174 14 ls (.inr (.inr (some 53)) :: st) (am_GS N, am_GR, I, L) = am_go0 cl 174 17 ls (.inr (.inr (some 91)) :: st) (am_GS N, am_GR, I, L) := am_rG2 am_m174 d_174_14 am_f9133 rfl (gs_53 N) (by decide) gr_53_47 rfl
theorem d_174_17 : am_code 174 17 = some (.aload_n 0, 1) := by decide +kernel
theorem s_174_17 (cl : am_C) (a1 : Option am_V) (x : Nat) (st : List am_V) (h : am_H) : am_go0 cl 174 17 [some (.inr (.inr (some x))), a1] st h = am_go0 cl 174 18 [some (.inr (.inr (some x))), a1] (.inr (.inr (some x)) :: st) h := am_r am_m174 d_174_17 rfl
theorem d_174_18 : am_code 174 18 = some (.getfield 242, 3) := by decide +kernel
theorem s_174_18 (cl : am_C) (ls : am_Ls) (st : List am_V) (N : Nat) (I : Nat → Int → Int) (L : Nat → Int → Int64) : am_go0 cl 174 18 ls (.inr (.inr (some 53)) :: st) (am_GS N, am_GR, I, L) = am_go0 cl 174 21 ls (.inl (I 53 49) :: st) (am_GS N, am_GR, I, L) := am_rG0 am_m174 d_174_18 am_f9242 rfl (gs_53 N) (by decide) rfl
theorem d_174_21 : am_code 174 21 = some (.iconst 1, 1) := by decide +kernel
theorem s_174_21 (cl : am_C) (ls : am_Ls) (st : List am_V) (h : am_H) : am_go0 cl 174 21 ls st h = am_go0 cl 174 22 ls (.inl 1 :: st) h := am_rK am_m174 d_174_21 (by decide) rfl _ _ _
theorem d_174_22 : am_code 174 22 = some (.isub, 1) := by decide +kernel
theorem s_174_22 (cl : am_C) (ls : am_Ls) (x y : Int) (st : List am_V) (h : am_H) : am_go0 cl 174 22 ls (.inl y :: .inl x :: st) h = am_go0 cl 174 23 ls (.inl (am_wr (x - y)) :: st) h := am_r am_m174 d_174_22 rfl
theorem d_174_23 : am_code 174 23 = some (.iaload, 1) := by decide +kernel
theorem s_174_23 (cl : am_C) (ls : am_Ls) (i : Int) (k : Nat) (st : List am_V) (N : Nat) (I : Nat → Int → Int) (L : Nat → Int → Int64) : am_go0 cl 174 23 ls (.inl i :: .inr (.inr (some k)) :: st) (am_GS N, am_GR, I, L) = if am_inb (am_GS N) k 0 i = true then am_go0 cl 174 24 ls (.inl (I k i) :: st) (am_GS N, am_GR, I, L) else none := am_rA am_m174 d_174_23 (by decide) rfl k ls st i _ _ I L
theorem d_174_24 : am_code 174 24 = some (.invokevirtual 245, 3) := by decide +kernel
theorem s_174_24 (cl : am_C) (ls : am_Ls) (x0 : Int) (x1 : Int) (x2 : Int) (N : Nat) (I : Nat → Int → Int) (L : Nat → Int → Int64) : am_go0 cl 174 24 ls [.inl x2, .inl x1, .inl x0, .inr (.inr (some 53))] (am_GS N, am_GR, I, L) = am_bd (cl 170 [.inr (.inr (some 53)), .inl x0, .inl x1, .inl x2] (am_GS N, am_GR, I, L)) (fun v h2 => am_go0 cl 174 27 ls (v.toList ++ []) h2) := am_rV am_m174 d_174_24 am_k9245 rfl am_m170 (gs_53 N) (by decide) (Nat.le_of_ble_eq_true rfl) rfl ls
theorem d_174_27 : am_code 174 27 = some (.return_, 1) := by decide +kernel
theorem s_174_27 (cl : am_C) (ls : am_Ls) (h : am_H) : am_go0 cl 174 27 ls [] h = some (none, h) := am_rE am_m174 d_174_27 rfl
theorem e_174 (d : Nat) (t : Nat) (p0 : Int) (h : am_H) : am_call (d + 1) 174 [.inr (.inr (some t)), .inl p0] h = am_go0 (am_call d) 174 0 [some (.inr (.inr (some t))), some (.inl p0)] [] h := am_callE am_m174 (Nat.le_of_ble_eq_true rfl) rfl
theorem d_175_0 : am_code 175 0 = some (.aload_n 0, 1) := by decide +kernel
theorem s_175_0 (cl : am_C) (a1 a2 : Option am_V) (x : Nat) (st : List am_V) (h : am_H) : am_go0 cl 175 0 [some (.inr (.inr (some x))), a1, a2] st h = am_go0 cl 175 1 [some (.inr (.inr (some x))), a1, a2] (.inr (.inr (some x)) :: st) h := am_r am_m175 d_175_0 rfl
theorem d_175_1 : am_code 175 1 = some (.getfield 130, 3) := by decide +kernel
theorem s_175_1 (cl : am_C) (ls : am_Ls) (st : List am_V) (N : Nat) (I : Nat → Int → Int) (L : Nat → Int → Int64) : am_go0 cl 175 1 ls (.inr (.inr (some 53)) :: st) (am_GS N, am_GR, I, L) = am_go0 cl 175 4 ls (.inr (.inr (some 90)) :: st) (am_GS N, am_GR, I, L) := am_rG2 am_m175 d_175_1 am_f9130 rfl (gs_53 N) (by decide) gr_53_46 rfl
theorem d_175_4 : am_code 175 4 = some (.aload_n 0, 1) := by decide +kernel
theorem s_175_4 (cl : am_C) (a1 a2 : Option am_V) (x : Nat) (st : List am_V) (h : am_H) : am_go0 cl 175 4 [some (.inr (.inr (some x))), a1, a2] st h = am_go0 cl 175 5 [some (.inr (.inr (some x))), a1, a2] (.inr (.inr (some x)) :: st) h := am_r am_m175 d_175_4 rfl
theorem d_175_5 : am_code 175 5 = some (.getfield 242, 3) := by decide +kernel
theorem s_175_5 (cl : am_C) (ls : am_Ls) (st : List am_V) (N : Nat) (I : Nat → Int → Int) (L : Nat → Int → Int64) : am_go0 cl 175 5 ls (.inr (.inr (some 53)) :: st) (am_GS N, am_GR, I, L) = am_go0 cl 175 8 ls (.inl (I 53 49) :: st) (am_GS N, am_GR, I, L) := am_rG0 am_m175 d_175_5 am_f9242 rfl (gs_53 N) (by decide) rfl
theorem d_175_8 : am_code 175 8 = some (.iconst 1, 1) := by decide +kernel
theorem s_175_8 (cl : am_C) (ls : am_Ls) (st : List am_V) (h : am_H) : am_go0 cl 175 8 ls st h = am_go0 cl 175 9 ls (.inl 1 :: st) h := am_rK am_m175 d_175_8 (by decide) rfl _ _ _
theorem d_175_9 : am_code 175 9 = some (.isub, 1) := by decide +kernel
theorem s_175_9 (cl : am_C) (ls : am_Ls) (x y : Int) (st : List am_V) (h : am_H) : am_go0 cl 175 9 ls (.inl y :: .inl x :: st) h = am_go0 cl 175 10 ls (.inl (am_wr (x - y)) :: st) h := am_r am_m175 d_175_9 rfl
theorem d_175_10 : am_code 175 10 = some (.iaload, 1) := by decide +kernel
theorem s_175_10 (cl : am_C) (ls : am_Ls) (i : Int) (k : Nat) (st : List am_V) (N : Nat) (I : Nat → Int → Int) (L : Nat → Int → Int64) : am_go0 cl 175 10 ls (.inl i :: .inr (.inr (some k)) :: st) (am_GS N, am_GR, I, L) = if am_inb (am_GS N) k 0 i = true then am_go0 cl 175 11 ls (.inl (I k i) :: st) (am_GS N, am_GR, I, L) else none := am_rA am_m175 d_175_10 (by decide) rfl k ls st i _ _ I L
theorem d_175_11 : am_code 175 11 = some (.istore_n 2, 1) := by decide +kernel
theorem s_175_11 (cl : am_C) (a0 a1 a2 : Option am_V) (x : Int) (st : List am_V) (h : am_H) : am_go0 cl 175 11 [a0, a1, a2] (.inl x :: st) h = am_go0 cl 175 12 [a0, am_c1 a1, some (.inl x)] st h := am_r am_m175 d_175_11 rfl
theorem d_175_12 : am_code 175 12 = some (.aload_n 0, 1) := by decide +kernel
theorem s_175_12 (cl : am_C) (a1 a2 : Option am_V) (x : Nat) (st : List am_V) (h : am_H) : am_go0 cl 175 12 [some (.inr (.inr (some x))), a1, a2] st h = am_go0 cl 175 13 [some (.inr (.inr (some x))), a1, a2] (.inr (.inr (some x)) :: st) h := am_r am_m175 d_175_12 rfl
theorem d_175_13 : am_code 175 13 = some (.getfield 65, 3) := by decide +kernel
theorem s_175_13 (cl : am_C) (ls : am_Ls) (st : List am_V) (N : Nat) (I : Nat → Int → Int) (L : Nat → Int → Int64) : am_go0 cl 175 13 ls (.inr (.inr (some 53)) :: st) (am_GS N, am_GR, I, L) = am_go0 cl 175 16 ls (.inr (.inr (some 71)) :: st) (am_GS N, am_GR, I, L) := am_rG2 am_m175 d_175_13 am_f9065 rfl (gs_53 N) (by decide) gr_53_22 rfl
theorem d_175_16 : am_code 175 16 = some (.iload_n 1, 1) := by decide +kernel
theorem s_175_16 (cl : am_C) (a0 a2 : Option am_V) (x : Int) (st : List am_V) (h : am_H) : am_go0 cl 175 16 [a0, some (.inl x), a2] st h = am_go0 cl 175 17 [a0, some (.inl x), a2] (.inl x :: st) h := am_r am_m175 d_175_16 rfl
theorem d_175_17 : am_code 175 17 = some (.iaload, 1) := by decide +kernel
theorem s_175_17 (cl : am_C) (ls : am_Ls) (i : Int) (k : Nat) (st : List am_V) (N : Nat) (I : Nat → Int → Int) (L : Nat → Int → Int64) : am_go0 cl 175 17 ls (.inl i :: .inr (.inr (some k)) :: st) (am_GS N, am_GR, I, L) = if am_inb (am_GS N) k 0 i = true then am_go0 cl 175 18 ls (.inl (I k i) :: st) (am_GS N, am_GR, I, L) else none := am_rA am_m175 d_175_17 (by decide) rfl k ls st i _ _ I L
theorem d_175_18 : am_code 175 18 = some (.tableswitch 182 0 9 #[54, 68, 82, 111, 152, 182, 182, 182, 182, 160], 54) := by decide +kernel
theorem s_175_18 (cl : am_C) (ls : am_Ls) (x : Int) (st : List am_V) (h : am_H) : am_go0 cl 175 18 ls (.inl x :: st) h = if x = 0 then am_go0 cl 175 72 ls st h else if x = 1 then am_go0 cl 175 86 ls st h else if x = 2 then am_go0 cl 175 100 ls st h else if x = 3 then am_go0 cl 175 129 ls st h else if x = 4 then am_go0 cl 175 170 ls st h else if x = 5 then am_go0 cl 175 200 ls st h else if x = 6 then am_go0 cl 175 200 ls st h else if x = 7 then am_go0 cl 175 200 ls st h else if x = 8 then am_go0 cl 175 200 ls st h else if x = 9 then am_go0 cl 175 178 ls st h else am_go0 cl 175 200 ls st h := by
  by_cases q0 : x = 0
  · subst q0; exact (am_rTs (54) am_m175 d_175_18 (by decide +kernel) (by decide) _ _ _).trans (if_pos rfl).symm
  rw [if_neg q0]
  by_cases q1 : x = 1
  · subst q1; exact (am_rTs (68) am_m175 d_175_18 (by decide +kernel) (by decide) _ _ _).trans (if_pos rfl).symm
  rw [if_neg q1]
  by_cases q2 : x = 2
  · subst q2; exact (am_rTs (82) am_m175 d_175_18 (by decide +kernel) (by decide) _ _ _).trans (if_pos rfl).symm
  rw [if_neg q2]
  by_cases q3 : x = 3
  · subst q3; exact (am_rTs (111) am_m175 d_175_18 (by decide +kernel) (by decide) _ _ _).trans (if_pos rfl).symm
  rw [if_neg q3]
  by_cases q4 : x = 4
  · subst q4; exact (am_rTs (152) am_m175 d_175_18 (by decide +kernel) (by decide) _ _ _).trans (if_pos rfl).symm
  rw [if_neg q4]
  by_cases q5 : x = 5
  · subst q5; exact (am_rTs (182) am_m175 d_175_18 (by decide +kernel) (by decide) _ _ _).trans (if_pos rfl).symm
  rw [if_neg q5]
  by_cases q6 : x = 6
  · subst q6; exact (am_rTs (182) am_m175 d_175_18 (by decide +kernel) (by decide) _ _ _).trans (if_pos rfl).symm
  rw [if_neg q6]
  by_cases q7 : x = 7
  · subst q7; exact (am_rTs (182) am_m175 d_175_18 (by decide +kernel) (by decide) _ _ _).trans (if_pos rfl).symm
  rw [if_neg q7]
  by_cases q8 : x = 8
  · subst q8; exact (am_rTs (182) am_m175 d_175_18 (by decide +kernel) (by decide) _ _ _).trans (if_pos rfl).symm
  rw [if_neg q8]
  by_cases q9 : x = 9
  · subst q9; exact (am_rTs (160) am_m175 d_175_18 (by decide +kernel) (by decide) _ _ _).trans (if_pos rfl).symm
  rw [if_neg q9]
  exact am_rTs (182) am_m175 d_175_18 (am_sw_out (by omega)) (by decide) _ _ _
theorem d_175_72 : am_code 175 72 = some (.aload_n 0, 1) := by decide +kernel
theorem s_175_72 (cl : am_C) (a1 a2 : Option am_V) (x : Nat) (st : List am_V) (h : am_H) : am_go0 cl 175 72 [some (.inr (.inr (some x))), a1, a2] st h = am_go0 cl 175 73 [some (.inr (.inr (some x))), a1, a2] (.inr (.inr (some x)) :: st) h := am_r am_m175 d_175_72 rfl
theorem d_175_73 : am_code 175 73 = some (.aload_n 0, 1) := by decide +kernel
theorem s_175_73 (cl : am_C) (a1 a2 : Option am_V) (x : Nat) (st : List am_V) (h : am_H) : am_go0 cl 175 73 [some (.inr (.inr (some x))), a1, a2] st h = am_go0 cl 175 74 [some (.inr (.inr (some x))), a1, a2] (.inr (.inr (some x)) :: st) h := am_r am_m175 d_175_73 rfl
theorem d_175_74 : am_code 175 74 = some (.getfield 68, 3) := by decide +kernel
theorem s_175_74 (cl : am_C) (ls : am_Ls) (st : List am_V) (N : Nat) (I : Nat → Int → Int) (L : Nat → Int → Int64) : am_go0 cl 175 74 ls (.inr (.inr (some 53)) :: st) (am_GS N, am_GR, I, L) = am_go0 cl 175 77 ls (.inr (.inr (some 72)) :: st) (am_GS N, am_GR, I, L) := am_rG2 am_m175 d_175_74 am_f9068 rfl (gs_53 N) (by decide) gr_53_23 rfl
theorem d_175_77 : am_code 175 77 = some (.iload_n 1, 1) := by decide +kernel
theorem s_175_77 (cl : am_C) (a0 a2 : Option am_V) (x : Int) (st : List am_V) (h : am_H) : am_go0 cl 175 77 [a0, some (.inl x), a2] st h = am_go0 cl 175 78 [a0, some (.inl x), a2] (.inl x :: st) h := am_r am_m175 d_175_77 rfl
theorem d_175_78 : am_code 175 78 = some (.iaload, 1) := by decide +kernel
theorem s_175_78 (cl : am_C) (ls : am_Ls) (i : Int) (k : Nat) (st : List am_V) (N : Nat) (I : Nat → Int → Int) (L : Nat → Int → Int64) : am_go0 cl 175 78 ls (.inl i :: .inr (.inr (some k)) :: st) (am_GS N, am_GR, I, L) = if am_inb (am_GS N) k 0 i = true then am_go0 cl 175 79 ls (.inl (I k i) :: st) (am_GS N, am_GR, I, L) else none := am_rA am_m175 d_175_78 (by decide) rfl k ls st i _ _ I L
theorem d_175_79 : am_code 175 79 = some (.i2l, 1) := by decide +kernel
theorem s_175_79 (cl : am_C) (ls : am_Ls) (x : Int) (st : List am_V) (h : am_H) : am_go0 cl 175 79 ls (.inl x :: st) h = am_go0 cl 175 80 ls (.inr (.inl (Int32.ofInt x).toInt64) :: st) h := am_r am_m175 d_175_79 rfl
theorem d_175_80 : am_code 175 80 = some (.invokevirtual 238, 3) := by decide +kernel
theorem s_175_80 (cl : am_C) (ls : am_Ls) (x0 : Int64) (N : Nat) (I : Nat → Int → Int) (L : Nat → Int → Int64) : am_go0 cl 175 80 ls [.inr (.inl x0), .inr (.inr (some 53))] (am_GS N, am_GR, I, L) = am_bd (cl 169 [.inr (.inr (some 53)), .inr (.inl x0)] (am_GS N, am_GR, I, L)) (fun v h2 => am_go0 cl 175 83 ls (v.toList ++ []) h2) := am_rV am_m175 d_175_80 am_k9238 rfl am_m169 (gs_53 N) (by decide) (Nat.le_of_ble_eq_true rfl) rfl ls
theorem d_175_83 : am_code 175 83 = some (.goto 145, 3) := by decide +kernel
theorem s_175_83 (cl : am_C) (ls : am_Ls) (st : List am_V) (h : am_H) : am_go0 cl 175 83 ls st h = am_go0 cl 175 228 ls st h := am_rGo am_m175 d_175_83 (by decide) _ _ _
theorem d_175_86 : am_code 175 86 = some (.aload_n 0, 1) := by decide +kernel
theorem s_175_86 (cl : am_C) (a1 a2 : Option am_V) (x : Nat) (st : List am_V) (h : am_H) : am_go0 cl 175 86 [some (.inr (.inr (some x))), a1, a2] st h = am_go0 cl 175 87 [some (.inr (.inr (some x))), a1, a2] (.inr (.inr (some x)) :: st) h := am_r am_m175 d_175_86 rfl
theorem d_175_87 : am_code 175 87 = some (.iload_n 2, 1) := by decide +kernel
theorem s_175_87 (cl : am_C) (a0 a1 : Option am_V) (x : Int) (st : List am_V) (h : am_H) : am_go0 cl 175 87 [a0, a1, some (.inl x)] st h = am_go0 cl 175 88 [a0, a1, some (.inl x)] (.inl x :: st) h := am_r am_m175 d_175_87 rfl
theorem d_175_88 : am_code 175 88 = some (.aload_n 0, 1) := by decide +kernel
theorem s_175_88 (cl : am_C) (a1 a2 : Option am_V) (x : Nat) (st : List am_V) (h : am_H) : am_go0 cl 175 88 [some (.inr (.inr (some x))), a1, a2] st h = am_go0 cl 175 89 [some (.inr (.inr (some x))), a1, a2] (.inr (.inr (some x)) :: st) h := am_r am_m175 d_175_88 rfl
theorem d_175_89 : am_code 175 89 = some (.getfield 68, 3) := by decide +kernel
theorem s_175_89 (cl : am_C) (ls : am_Ls) (st : List am_V) (N : Nat) (I : Nat → Int → Int) (L : Nat → Int → Int64) : am_go0 cl 175 89 ls (.inr (.inr (some 53)) :: st) (am_GS N, am_GR, I, L) = am_go0 cl 175 92 ls (.inr (.inr (some 72)) :: st) (am_GS N, am_GR, I, L) := am_rG2 am_m175 d_175_89 am_f9068 rfl (gs_53 N) (by decide) gr_53_23 rfl
theorem d_175_92 : am_code 175 92 = some (.iload_n 1, 1) := by decide +kernel
theorem s_175_92 (cl : am_C) (a0 a2 : Option am_V) (x : Int) (st : List am_V) (h : am_H) : am_go0 cl 175 92 [a0, some (.inl x), a2] st h = am_go0 cl 175 93 [a0, some (.inl x), a2] (.inl x :: st) h := am_r am_m175 d_175_92 rfl
theorem d_175_93 : am_code 175 93 = some (.iaload, 1) := by decide +kernel
theorem s_175_93 (cl : am_C) (ls : am_Ls) (i : Int) (k : Nat) (st : List am_V) (N : Nat) (I : Nat → Int → Int) (L : Nat → Int → Int64) : am_go0 cl 175 93 ls (.inl i :: .inr (.inr (some k)) :: st) (am_GS N, am_GR, I, L) = if am_inb (am_GS N) k 0 i = true then am_go0 cl 175 94 ls (.inl (I k i) :: st) (am_GS N, am_GR, I, L) else none := am_rA am_m175 d_175_93 (by decide) rfl k ls st i _ _ I L
theorem d_175_94 : am_code 175 94 = some (.invokevirtual 259, 3) := by decide +kernel
theorem s_175_94 (cl : am_C) (ls : am_Ls) (x0 : Int) (x1 : Int) (N : Nat) (I : Nat → Int → Int) (L : Nat → Int → Int64) : am_go0 cl 175 94 ls [.inl x1, .inl x0, .inr (.inr (some 53))] (am_GS N, am_GR, I, L) = am_bd (cl 168 [.inr (.inr (some 53)), .inl x0, .inl x1] (am_GS N, am_GR, I, L)) (fun v h2 => am_go0 cl 175 97 ls (v.toList ++ []) h2) := am_rV am_m175 d_175_94 am_k9259 rfl am_m168 (gs_53 N) (by decide) (Nat.le_of_ble_eq_true rfl) rfl ls
theorem d_175_97 : am_code 175 97 = some (.goto 131, 3) := by decide +kernel
theorem s_175_97 (cl : am_C) (ls : am_Ls) (st : List am_V) (h : am_H) : am_go0 cl 175 97 ls st h = am_go0 cl 175 228 ls st h := am_rGo am_m175 d_175_97 (by decide) _ _ _
theorem d_175_100 : am_code 175 100 = some (.aload_n 0, 1) := by decide +kernel
theorem s_175_100 (cl : am_C) (a1 a2 : Option am_V) (x : Nat) (st : List am_V) (h : am_H) : am_go0 cl 175 100 [some (.inr (.inr (some x))), a1, a2] st h = am_go0 cl 175 101 [some (.inr (.inr (some x))), a1, a2] (.inr (.inr (some x)) :: st) h := am_r am_m175 d_175_100 rfl
theorem d_175_101 : am_code 175 101 = some (.aload_n 0, 1) := by decide +kernel
theorem s_175_101 (cl : am_C) (a1 a2 : Option am_V) (x : Nat) (st : List am_V) (h : am_H) : am_go0 cl 175 101 [some (.inr (.inr (some x))), a1, a2] st h = am_go0 cl 175 102 [some (.inr (.inr (some x))), a1, a2] (.inr (.inr (some x)) :: st) h := am_r am_m175 d_175_101 rfl
theorem d_175_102 : am_code 175 102 = some (.getfield 93, 3) := by decide +kernel
theorem s_175_102 (cl : am_C) (ls : am_Ls) (st : List am_V) (N : Nat) (I : Nat → Int → Int) (L : Nat → Int → Int64) : am_go0 cl 175 102 ls (.inr (.inr (some 53)) :: st) (am_GS N, am_GR, I, L) = am_go0 cl 175 105 ls (.inr (.inr (some 80)) :: st) (am_GS N, am_GR, I, L) := am_rG2 am_m175 d_175_102 am_f9093 rfl (gs_53 N) (by decide) gr_53_32 rfl
theorem d_175_105 : am_code 175 105 = some (.bipush 6, 2) := by decide +kernel
theorem s_175_105 (cl : am_C) (ls : am_Ls) (st : List am_V) (h : am_H) : am_go0 cl 175 105 ls st h = am_go0 cl 175 107 ls (.inl 6 :: st) h := am_rB am_m175 d_175_105 (by decide) rfl _ _ _
theorem d_175_107 : am_code 175 107 = some (.iload_n 2, 1) := by decide +kernel
theorem s_175_107 (cl : am_C) (a0 a1 : Option am_V) (x : Int) (st : List am_V) (h : am_H) : am_go0 cl 175 107 [a0, a1, some (.inl x)] st h = am_go0 cl 175 108 [a0, a1, some (.inl x)] (.inl x :: st) h := am_r am_m175 d_175_107 rfl
theorem d_175_108 : am_code 175 108 = some (.imul, 1) := by decide +kernel
theorem s_175_108 (cl : am_C) (ls : am_Ls) (x y : Int) (st : List am_V) (h : am_H) : am_go0 cl 175 108 ls (.inl y :: .inl x :: st) h = am_go0 cl 175 109 ls (.inl (am_wr (x * y)) :: st) h := am_r am_m175 d_175_108 rfl
theorem d_175_109 : am_code 175 109 = some (.aload_n 0, 1) := by decide +kernel
theorem s_175_109 (cl : am_C) (a1 a2 : Option am_V) (x : Nat) (st : List am_V) (h : am_H) : am_go0 cl 175 109 [some (.inr (.inr (some x))), a1, a2] st h = am_go0 cl 175 110 [some (.inr (.inr (some x))), a1, a2] (.inr (.inr (some x)) :: st) h := am_r am_m175 d_175_109 rfl
theorem d_175_110 : am_code 175 110 = some (.getfield 68, 3) := by decide +kernel
theorem s_175_110 (cl : am_C) (ls : am_Ls) (st : List am_V) (N : Nat) (I : Nat → Int → Int) (L : Nat → Int → Int64) : am_go0 cl 175 110 ls (.inr (.inr (some 53)) :: st) (am_GS N, am_GR, I, L) = am_go0 cl 175 113 ls (.inr (.inr (some 72)) :: st) (am_GS N, am_GR, I, L) := am_rG2 am_m175 d_175_110 am_f9068 rfl (gs_53 N) (by decide) gr_53_23 rfl
theorem d_175_113 : am_code 175 113 = some (.iload_n 1, 1) := by decide +kernel
theorem s_175_113 (cl : am_C) (a0 a2 : Option am_V) (x : Int) (st : List am_V) (h : am_H) : am_go0 cl 175 113 [a0, some (.inl x), a2] st h = am_go0 cl 175 114 [a0, some (.inl x), a2] (.inl x :: st) h := am_r am_m175 d_175_113 rfl
theorem d_175_114 : am_code 175 114 = some (.iaload, 1) := by decide +kernel
theorem s_175_114 (cl : am_C) (ls : am_Ls) (i : Int) (k : Nat) (st : List am_V) (N : Nat) (I : Nat → Int → Int) (L : Nat → Int → Int64) : am_go0 cl 175 114 ls (.inl i :: .inr (.inr (some k)) :: st) (am_GS N, am_GR, I, L) = if am_inb (am_GS N) k 0 i = true then am_go0 cl 175 115 ls (.inl (I k i) :: st) (am_GS N, am_GR, I, L) else none := am_rA am_m175 d_175_114 (by decide) rfl k ls st i _ _ I L
theorem d_175_115 : am_code 175 115 = some (.iadd, 1) := by decide +kernel
theorem s_175_115 (cl : am_C) (ls : am_Ls) (x y : Int) (st : List am_V) (h : am_H) : am_go0 cl 175 115 ls (.inl y :: .inl x :: st) h = am_go0 cl 175 116 ls (.inl (am_wr (x + y)) :: st) h := am_r am_m175 d_175_115 rfl
theorem d_175_116 : am_code 175 116 = some (.iaload, 1) := by decide +kernel
theorem s_175_116 (cl : am_C) (ls : am_Ls) (i : Int) (k : Nat) (st : List am_V) (N : Nat) (I : Nat → Int → Int) (L : Nat → Int → Int64) : am_go0 cl 175 116 ls (.inl i :: .inr (.inr (some k)) :: st) (am_GS N, am_GR, I, L) = if am_inb (am_GS N) k 0 i = true then am_go0 cl 175 117 ls (.inl (I k i) :: st) (am_GS N, am_GR, I, L) else none := am_rA am_m175 d_175_116 (by decide) rfl k ls st i _ _ I L
theorem d_175_117 : am_code 175 117 = some (.aload_n 0, 1) := by decide +kernel
theorem s_175_117 (cl : am_C) (a1 a2 : Option am_V) (x : Nat) (st : List am_V) (h : am_H) : am_go0 cl 175 117 [some (.inr (.inr (some x))), a1, a2] st h = am_go0 cl 175 118 [some (.inr (.inr (some x))), a1, a2] (.inr (.inr (some x)) :: st) h := am_r am_m175 d_175_117 rfl
theorem d_175_118 : am_code 175 118 = some (.getfield 71, 3) := by decide +kernel
theorem s_175_118 (cl : am_C) (ls : am_Ls) (st : List am_V) (N : Nat) (I : Nat → Int → Int) (L : Nat → Int → Int64) : am_go0 cl 175 118 ls (.inr (.inr (some 53)) :: st) (am_GS N, am_GR, I, L) = am_go0 cl 175 121 ls (.inr (.inr (some 73)) :: st) (am_GS N, am_GR, I, L) := am_rG2 am_m175 d_175_118 am_f9071 rfl (gs_53 N) (by decide) gr_53_24 rfl
theorem d_175_121 : am_code 175 121 = some (.iload_n 1, 1) := by decide +kernel
theorem s_175_121 (cl : am_C) (a0 a2 : Option am_V) (x : Int) (st : List am_V) (h : am_H) : am_go0 cl 175 121 [a0, some (.inl x), a2] st h = am_go0 cl 175 122 [a0, some (.inl x), a2] (.inl x :: st) h := am_r am_m175 d_175_121 rfl
theorem d_175_122 : am_code 175 122 = some (.iaload, 1) := by decide +kernel
theorem s_175_122 (cl : am_C) (ls : am_Ls) (i : Int) (k : Nat) (st : List am_V) (N : Nat) (I : Nat → Int → Int) (L : Nat → Int → Int64) : am_go0 cl 175 122 ls (.inl i :: .inr (.inr (some k)) :: st) (am_GS N, am_GR, I, L) = if am_inb (am_GS N) k 0 i = true then am_go0 cl 175 123 ls (.inl (I k i) :: st) (am_GS N, am_GR, I, L) else none := am_rA am_m175 d_175_122 (by decide) rfl k ls st i _ _ I L
theorem d_175_123 : am_code 175 123 = some (.invokevirtual 259, 3) := by decide +kernel
theorem s_175_123 (cl : am_C) (ls : am_Ls) (x0 : Int) (x1 : Int) (N : Nat) (I : Nat → Int → Int) (L : Nat → Int → Int64) : am_go0 cl 175 123 ls [.inl x1, .inl x0, .inr (.inr (some 53))] (am_GS N, am_GR, I, L) = am_bd (cl 168 [.inr (.inr (some 53)), .inl x0, .inl x1] (am_GS N, am_GR, I, L)) (fun v h2 => am_go0 cl 175 126 ls (v.toList ++ []) h2) := am_rV am_m175 d_175_123 am_k9259 rfl am_m168 (gs_53 N) (by decide) (Nat.le_of_ble_eq_true rfl) rfl ls
theorem d_175_126 : am_code 175 126 = some (.goto 102, 3) := by decide +kernel
theorem s_175_126 (cl : am_C) (ls : am_Ls) (st : List am_V) (h : am_H) : am_go0 cl 175 126 ls st h = am_go0 cl 175 228 ls st h := am_rGo am_m175 d_175_126 (by decide) _ _ _
theorem d_175_129 : am_code 175 129 = some (.aload_n 0, 1) := by decide +kernel
theorem s_175_129 (cl : am_C) (a1 a2 : Option am_V) (x : Nat) (st : List am_V) (h : am_H) : am_go0 cl 175 129 [some (.inr (.inr (some x))), a1, a2] st h = am_go0 cl 175 130 [some (.inr (.inr (some x))), a1, a2] (.inr (.inr (some x)) :: st) h := am_r am_m175 d_175_129 rfl
theorem d_175_130 : am_code 175 130 = some (.aload_n 0, 1) := by decide +kernel
theorem s_175_130 (cl : am_C) (a1 a2 : Option am_V) (x : Nat) (st : List am_V) (h : am_H) : am_go0 cl 175 130 [some (.inr (.inr (some x))), a1, a2] st h = am_go0 cl 175 131 [some (.inr (.inr (some x))), a1, a2] (.inr (.inr (some x)) :: st) h := am_r am_m175 d_175_130 rfl
theorem d_175_131 : am_code 175 131 = some (.getfield 93, 3) := by decide +kernel
theorem s_175_131 (cl : am_C) (ls : am_Ls) (st : List am_V) (N : Nat) (I : Nat → Int → Int) (L : Nat → Int → Int64) : am_go0 cl 175 131 ls (.inr (.inr (some 53)) :: st) (am_GS N, am_GR, I, L) = am_go0 cl 175 134 ls (.inr (.inr (some 80)) :: st) (am_GS N, am_GR, I, L) := am_rG2 am_m175 d_175_131 am_f9093 rfl (gs_53 N) (by decide) gr_53_32 rfl
theorem d_175_134 : am_code 175 134 = some (.bipush 6, 2) := by decide +kernel
theorem s_175_134 (cl : am_C) (ls : am_Ls) (st : List am_V) (h : am_H) : am_go0 cl 175 134 ls st h = am_go0 cl 175 136 ls (.inl 6 :: st) h := am_rB am_m175 d_175_134 (by decide) rfl _ _ _
theorem d_175_136 : am_code 175 136 = some (.iload_n 2, 1) := by decide +kernel
theorem s_175_136 (cl : am_C) (a0 a1 : Option am_V) (x : Int) (st : List am_V) (h : am_H) : am_go0 cl 175 136 [a0, a1, some (.inl x)] st h = am_go0 cl 175 137 [a0, a1, some (.inl x)] (.inl x :: st) h := am_r am_m175 d_175_136 rfl
theorem d_175_137 : am_code 175 137 = some (.imul, 1) := by decide +kernel
theorem s_175_137 (cl : am_C) (ls : am_Ls) (x y : Int) (st : List am_V) (h : am_H) : am_go0 cl 175 137 ls (.inl y :: .inl x :: st) h = am_go0 cl 175 138 ls (.inl (am_wr (x * y)) :: st) h := am_r am_m175 d_175_137 rfl
theorem d_175_138 : am_code 175 138 = some (.aload_n 0, 1) := by decide +kernel
theorem s_175_138 (cl : am_C) (a1 a2 : Option am_V) (x : Nat) (st : List am_V) (h : am_H) : am_go0 cl 175 138 [some (.inr (.inr (some x))), a1, a2] st h = am_go0 cl 175 139 [some (.inr (.inr (some x))), a1, a2] (.inr (.inr (some x)) :: st) h := am_r am_m175 d_175_138 rfl
theorem d_175_139 : am_code 175 139 = some (.getfield 53, 3) := by decide +kernel
theorem s_175_139 (cl : am_C) (ls : am_Ls) (st : List am_V) (N : Nat) (I : Nat → Int → Int) (L : Nat → Int → Int64) : am_go0 cl 175 139 ls (.inr (.inr (some 53)) :: st) (am_GS N, am_GR, I, L) = am_go0 cl 175 142 ls (.inr (.inr (some 67)) :: st) (am_GS N, am_GR, I, L) := am_rG2 am_m175 d_175_139 am_f9053 rfl (gs_53 N) (by decide) gr_53_17 rfl
theorem d_175_142 : am_code 175 142 = some (.aload_n 0, 1) := by decide +kernel
theorem s_175_142 (cl : am_C) (a1 a2 : Option am_V) (x : Nat) (st : List am_V) (h : am_H) : am_go0 cl 175 142 [some (.inr (.inr (some x))), a1, a2] st h = am_go0 cl 175 143 [some (.inr (.inr (some x))), a1, a2] (.inr (.inr (some x)) :: st) h := am_r am_m175 d_175_142 rfl
theorem d_175_143 : am_code 175 143 = some (.getfield 90, 3) := by decide +kernel
theorem s_175_143 (cl : am_C) (ls : am_Ls) (st : List am_V) (N : Nat) (I : Nat → Int → Int) (L : Nat → Int → Int64) : am_go0 cl 175 143 ls (.inr (.inr (some 53)) :: st) (am_GS N, am_GR, I, L) = am_go0 cl 175 146 ls (.inr (.inr (some 79)) :: st) (am_GS N, am_GR, I, L) := am_rG2 am_m175 d_175_143 am_f9090 rfl (gs_53 N) (by decide) gr_53_31 rfl
theorem d_175_146 : am_code 175 146 = some (.iload_n 2, 1) := by decide +kernel
theorem s_175_146 (cl : am_C) (a0 a1 : Option am_V) (x : Int) (st : List am_V) (h : am_H) : am_go0 cl 175 146 [a0, a1, some (.inl x)] st h = am_go0 cl 175 147 [a0, a1, some (.inl x)] (.inl x :: st) h := am_r am_m175 d_175_146 rfl
theorem d_175_147 : am_code 175 147 = some (.iaload, 1) := by decide +kernel
theorem s_175_147 (cl : am_C) (ls : am_Ls) (i : Int) (k : Nat) (st : List am_V) (N : Nat) (I : Nat → Int → Int) (L : Nat → Int → Int64) : am_go0 cl 175 147 ls (.inl i :: .inr (.inr (some k)) :: st) (am_GS N, am_GR, I, L) = if am_inb (am_GS N) k 0 i = true then am_go0 cl 175 148 ls (.inl (I k i) :: st) (am_GS N, am_GR, I, L) else none := am_rA am_m175 d_175_147 (by decide) rfl k ls st i _ _ I L
theorem d_175_148 : am_code 175 148 = some (.iaload, 1) := by decide +kernel
theorem s_175_148 (cl : am_C) (ls : am_Ls) (i : Int) (k : Nat) (st : List am_V) (N : Nat) (I : Nat → Int → Int) (L : Nat → Int → Int64) : am_go0 cl 175 148 ls (.inl i :: .inr (.inr (some k)) :: st) (am_GS N, am_GR, I, L) = if am_inb (am_GS N) k 0 i = true then am_go0 cl 175 149 ls (.inl (I k i) :: st) (am_GS N, am_GR, I, L) else none := am_rA am_m175 d_175_148 (by decide) rfl k ls st i _ _ I L
theorem d_175_149 : am_code 175 149 = some (.iadd, 1) := by decide +kernel
theorem s_175_149 (cl : am_C) (ls : am_Ls) (x y : Int) (st : List am_V) (h : am_H) : am_go0 cl 175 149 ls (.inl y :: .inl x :: st) h = am_go0 cl 175 150 ls (.inl (am_wr (x + y)) :: st) h := am_r am_m175 d_175_149 rfl
theorem d_175_150 : am_code 175 150 = some (.aload_n 0, 1) := by decide +kernel
theorem s_175_150 (cl : am_C) (a1 a2 : Option am_V) (x : Nat) (st : List am_V) (h : am_H) : am_go0 cl 175 150 [some (.inr (.inr (some x))), a1, a2] st h = am_go0 cl 175 151 [some (.inr (.inr (some x))), a1, a2] (.inr (.inr (some x)) :: st) h := am_r am_m175 d_175_150 rfl
theorem d_175_151 : am_code 175 151 = some (.getfield 68, 3) := by decide +kernel
theorem s_175_151 (cl : am_C) (ls : am_Ls) (st : List am_V) (N : Nat) (I : Nat → Int → Int) (L : Nat → Int → Int64) : am_go0 cl 175 151 ls (.inr (.inr (some 53)) :: st) (am_GS N, am_GR, I, L) = am_go0 cl 175 154 ls (.inr (.inr (some 72)) :: st) (am_GS N, am_GR, I, L) := am_rG2 am_m175 d_175_151 am_f9068 rfl (gs_53 N) (by decide) gr_53_23 rfl
theorem d_175_154 : am_code 175 154 = some (.iload_n 1, 1) := by decide +kernel
theorem s_175_154 (cl : am_C) (a0 a2 : Option am_V) (x : Int) (st : List am_V) (h : am_H) : am_go0 cl 175 154 [a0, some (.inl x), a2] st h = am_go0 cl 175 155 [a0, some (.inl x), a2] (.inl x :: st) h := am_r am_m175 d_175_154 rfl
theorem d_175_155 : am_code 175 155 = some (.iaload, 1) := by decide +kernel
theorem s_175_155 (cl : am_C) (ls : am_Ls) (i : Int) (k : Nat) (st : List am_V) (N : Nat) (I : Nat → Int → Int) (L : Nat → Int → Int64) : am_go0 cl 175 155 ls (.inl i :: .inr (.inr (some k)) :: st) (am_GS N, am_GR, I, L) = if am_inb (am_GS N) k 0 i = true then am_go0 cl 175 156 ls (.inl (I k i) :: st) (am_GS N, am_GR, I, L) else none := am_rA am_m175 d_175_155 (by decide) rfl k ls st i _ _ I L
theorem d_175_156 : am_code 175 156 = some (.iadd, 1) := by decide +kernel
theorem s_175_156 (cl : am_C) (ls : am_Ls) (x y : Int) (st : List am_V) (h : am_H) : am_go0 cl 175 156 ls (.inl y :: .inl x :: st) h = am_go0 cl 175 157 ls (.inl (am_wr (x + y)) :: st) h := am_r am_m175 d_175_156 rfl
theorem d_175_157 : am_code 175 157 = some (.iaload, 1) := by decide +kernel
theorem s_175_157 (cl : am_C) (ls : am_Ls) (i : Int) (k : Nat) (st : List am_V) (N : Nat) (I : Nat → Int → Int) (L : Nat → Int → Int64) : am_go0 cl 175 157 ls (.inl i :: .inr (.inr (some k)) :: st) (am_GS N, am_GR, I, L) = if am_inb (am_GS N) k 0 i = true then am_go0 cl 175 158 ls (.inl (I k i) :: st) (am_GS N, am_GR, I, L) else none := am_rA am_m175 d_175_157 (by decide) rfl k ls st i _ _ I L
theorem d_175_158 : am_code 175 158 = some (.aload_n 0, 1) := by decide +kernel
theorem s_175_158 (cl : am_C) (a1 a2 : Option am_V) (x : Nat) (st : List am_V) (h : am_H) : am_go0 cl 175 158 [some (.inr (.inr (some x))), a1, a2] st h = am_go0 cl 175 159 [some (.inr (.inr (some x))), a1, a2] (.inr (.inr (some x)) :: st) h := am_r am_m175 d_175_158 rfl
theorem d_175_159 : am_code 175 159 = some (.getfield 71, 3) := by decide +kernel
theorem s_175_159 (cl : am_C) (ls : am_Ls) (st : List am_V) (N : Nat) (I : Nat → Int → Int) (L : Nat → Int → Int64) : am_go0 cl 175 159 ls (.inr (.inr (some 53)) :: st) (am_GS N, am_GR, I, L) = am_go0 cl 175 162 ls (.inr (.inr (some 73)) :: st) (am_GS N, am_GR, I, L) := am_rG2 am_m175 d_175_159 am_f9071 rfl (gs_53 N) (by decide) gr_53_24 rfl
theorem d_175_162 : am_code 175 162 = some (.iload_n 1, 1) := by decide +kernel
theorem s_175_162 (cl : am_C) (a0 a2 : Option am_V) (x : Int) (st : List am_V) (h : am_H) : am_go0 cl 175 162 [a0, some (.inl x), a2] st h = am_go0 cl 175 163 [a0, some (.inl x), a2] (.inl x :: st) h := am_r am_m175 d_175_162 rfl
theorem d_175_163 : am_code 175 163 = some (.iaload, 1) := by decide +kernel
theorem s_175_163 (cl : am_C) (ls : am_Ls) (i : Int) (k : Nat) (st : List am_V) (N : Nat) (I : Nat → Int → Int) (L : Nat → Int → Int64) : am_go0 cl 175 163 ls (.inl i :: .inr (.inr (some k)) :: st) (am_GS N, am_GR, I, L) = if am_inb (am_GS N) k 0 i = true then am_go0 cl 175 164 ls (.inl (I k i) :: st) (am_GS N, am_GR, I, L) else none := am_rA am_m175 d_175_163 (by decide) rfl k ls st i _ _ I L
theorem d_175_164 : am_code 175 164 = some (.invokevirtual 259, 3) := by decide +kernel
theorem s_175_164 (cl : am_C) (ls : am_Ls) (x0 : Int) (x1 : Int) (N : Nat) (I : Nat → Int → Int) (L : Nat → Int → Int64) : am_go0 cl 175 164 ls [.inl x1, .inl x0, .inr (.inr (some 53))] (am_GS N, am_GR, I, L) = am_bd (cl 168 [.inr (.inr (some 53)), .inl x0, .inl x1] (am_GS N, am_GR, I, L)) (fun v h2 => am_go0 cl 175 167 ls (v.toList ++ []) h2) := am_rV am_m175 d_175_164 am_k9259 rfl am_m168 (gs_53 N) (by decide) (Nat.le_of_ble_eq_true rfl) rfl ls
theorem d_175_167 : am_code 175 167 = some (.goto 61, 3) := by decide +kernel
theorem s_175_167 (cl : am_C) (ls : am_Ls) (st : List am_V) (h : am_H) : am_go0 cl 175 167 ls st h = am_go0 cl 175 228 ls st h := am_rGo am_m175 d_175_167 (by decide) _ _ _
theorem d_175_170 : am_code 175 170 = some (.aload_n 0, 1) := by decide +kernel
theorem s_175_170 (cl : am_C) (a1 a2 : Option am_V) (x : Nat) (st : List am_V) (h : am_H) : am_go0 cl 175 170 [some (.inr (.inr (some x))), a1, a2] st h = am_go0 cl 175 171 [some (.inr (.inr (some x))), a1, a2] (.inr (.inr (some x)) :: st) h := am_r am_m175 d_175_170 rfl
theorem d_175_171 : am_code 175 171 = some (.iload_n 1, 1) := by decide +kernel
theorem s_175_171 (cl : am_C) (a0 a2 : Option am_V) (x : Int) (st : List am_V) (h : am_H) : am_go0 cl 175 171 [a0, some (.inl x), a2] st h = am_go0 cl 175 172 [a0, some (.inl x), a2] (.inl x :: st) h := am_r am_m175 d_175_171 rfl
theorem d_175_172 : am_code 175 172 = some (.invokevirtual 263, 3) := by decide +kernel
theorem s_175_172 (cl : am_C) (ls : am_Ls) (x0 : Int) (N : Nat) (I : Nat → Int → Int) (L : Nat → Int → Int64) : am_go0 cl 175 172 ls [.inl x0, .inr (.inr (some 53))] (am_GS N, am_GR, I, L) = am_bd (cl 176 [.inr (.inr (some 53)), .inl x0] (am_GS N, am_GR, I, L)) (fun v h2 => am_go0 cl 175 175 ls (v.toList ++ []) h2) := am_rV am_m175 d_175_172 am_k9263 rfl am_m176 (gs_53 N) (by decide) (Nat.le_of_ble_eq_true rfl) rfl ls
theorem d_175_175 : am_code 175 175 = some (.goto 53, 3) := by decide +kernel
theorem s_175_175 (cl : am_C) (ls : am_Ls) (st : List am_V) (h : am_H) : am_go0 cl 175 175 ls st h = am_go0 cl 175 228 ls st h := am_rGo am_m175 d_175_175 (by decide) _ _ _
theorem d_175_178 : am_code 175 178 = some (.aload_n 0, 1) := by decide +kernel
theorem s_175_178 (cl : am_C) (a1 a2 : Option am_V) (x : Nat) (st : List am_V) (h : am_H) : am_go0 cl 175 178 [some (.inr (.inr (some x))), a1, a2] st h = am_go0 cl 175 179 [some (.inr (.inr (some x))), a1, a2] (.inr (.inr (some x)) :: st) h := am_r am_m175 d_175_178 rfl
theorem d_175_179 : am_code 175 179 = some (.sipush 200, 3) := by decide +kernel
theorem s_175_179 (cl : am_C) (ls : am_Ls) (st : List am_V) (h : am_H) : am_go0 cl 175 179 ls st h = am_go0 cl 175 182 ls (.inl 200 :: st) h := am_rBs am_m175 d_175_179 (by decide) rfl _ _ _
theorem d_175_182 : am_code 175 182 = some (.iload_n 1, 1) := by decide +kernel
theorem s_175_182 (cl : am_C) (a0 a2 : Option am_V) (x : Int) (st : List am_V) (h : am_H) : am_go0 cl 175 182 [a0, some (.inl x), a2] st h = am_go0 cl 175 183 [a0, some (.inl x), a2] (.inl x :: st) h := am_r am_m175 d_175_182 rfl
theorem d_175_183 : am_code 175 183 = some (.iadd, 1) := by decide +kernel
theorem s_175_183 (cl : am_C) (ls : am_Ls) (x y : Int) (st : List am_V) (h : am_H) : am_go0 cl 175 183 ls (.inl y :: .inl x :: st) h = am_go0 cl 175 184 ls (.inl (am_wr (x + y)) :: st) h := am_r am_m175 d_175_183 rfl
theorem d_175_184 : am_code 175 184 = some (.invokevirtual 249, 3) := by decide +kernel
theorem s_175_184 (cl : am_C) (ls : am_Ls) (x0 : Int) (N : Nat) (I : Nat → Int → Int) (L : Nat → Int → Int64) : am_go0 cl 175 184 ls [.inl x0, .inr (.inr (some 53))] (am_GS N, am_GR, I, L) = am_bd (cl 171 [.inr (.inr (some 53)), .inl x0] (am_GS N, am_GR, I, L)) (fun v h2 => am_go0 cl 175 187 ls (v.toList ++ []) h2) := am_rV am_m175 d_175_184 am_k9249 rfl am_m171 (gs_53 N) (by decide) (Nat.le_of_ble_eq_true rfl) rfl ls
theorem d_175_187 : am_code 175 187 = some (.aload_n 0, 1) := by decide +kernel
theorem s_175_187 (cl : am_C) (a1 a2 : Option am_V) (x : Nat) (st : List am_V) (h : am_H) : am_go0 cl 175 187 [some (.inr (.inr (some x))), a1, a2] st h = am_go0 cl 175 188 [some (.inr (.inr (some x))), a1, a2] (.inr (.inr (some x)) :: st) h := am_r am_m175 d_175_187 rfl
theorem d_175_188 : am_code 175 188 = some (.aload_n 0, 1) := by decide +kernel
theorem s_175_188 (cl : am_C) (a1 a2 : Option am_V) (x : Nat) (st : List am_V) (h : am_H) : am_go0 cl 175 188 [some (.inr (.inr (some x))), a1, a2] st h = am_go0 cl 175 189 [some (.inr (.inr (some x))), a1, a2] (.inr (.inr (some x)) :: st) h := am_r am_m175 d_175_188 rfl
theorem d_175_189 : am_code 175 189 = some (.getfield 68, 3) := by decide +kernel
theorem s_175_189 (cl : am_C) (ls : am_Ls) (st : List am_V) (N : Nat) (I : Nat → Int → Int) (L : Nat → Int → Int64) : am_go0 cl 175 189 ls (.inr (.inr (some 53)) :: st) (am_GS N, am_GR, I, L) = am_go0 cl 175 192 ls (.inr (.inr (some 72)) :: st) (am_GS N, am_GR, I, L) := am_rG2 am_m175 d_175_189 am_f9068 rfl (gs_53 N) (by decide) gr_53_23 rfl
theorem d_175_192 : am_code 175 192 = some (.iload_n 1, 1) := by decide +kernel
theorem s_175_192 (cl : am_C) (a0 a2 : Option am_V) (x : Int) (st : List am_V) (h : am_H) : am_go0 cl 175 192 [a0, some (.inl x), a2] st h = am_go0 cl 175 193 [a0, some (.inl x), a2] (.inl x :: st) h := am_r am_m175 d_175_192 rfl
theorem d_175_193 : am_code 175 193 = some (.iaload, 1) := by decide +kernel
theorem s_175_193 (cl : am_C) (ls : am_Ls) (i : Int) (k : Nat) (st : List am_V) (N : Nat) (I : Nat → Int → Int) (L : Nat → Int → Int64) : am_go0 cl 175 193 ls (.inl i :: .inr (.inr (some k)) :: st) (am_GS N, am_GR, I, L) = if am_inb (am_GS N) k 0 i = true then am_go0 cl 175 194 ls (.inl (I k i) :: st) (am_GS N, am_GR, I, L) else none := am_rA am_m175 d_175_193 (by decide) rfl k ls st i _ _ I L
theorem d_175_194 : am_code 175 194 = some (.invokevirtual 249, 3) := by decide +kernel
theorem s_175_194 (cl : am_C) (ls : am_Ls) (x0 : Int) (N : Nat) (I : Nat → Int → Int) (L : Nat → Int → Int64) : am_go0 cl 175 194 ls [.inl x0, .inr (.inr (some 53))] (am_GS N, am_GR, I, L) = am_bd (cl 171 [.inr (.inr (some 53)), .inl x0] (am_GS N, am_GR, I, L)) (fun v h2 => am_go0 cl 175 197 ls (v.toList ++ []) h2) := am_rV am_m175 d_175_194 am_k9249 rfl am_m171 (gs_53 N) (by decide) (Nat.le_of_ble_eq_true rfl) rfl ls
theorem d_175_197 : am_code 175 197 = some (.goto 31, 3) := by decide +kernel
theorem s_175_197 (cl : am_C) (ls : am_Ls) (st : List am_V) (h : am_H) : am_go0 cl 175 197 ls st h = am_go0 cl 175 228 ls st h := am_rGo am_m175 d_175_197 (by decide) _ _ _
theorem d_175_200 : am_code 175 200 = some (.aload_n 0, 1) := by decide +kernel
theorem s_175_200 (cl : am_C) (a1 a2 : Option am_V) (x : Nat) (st : List am_V) (h : am_H) : am_go0 cl 175 200 [some (.inr (.inr (some x))), a1, a2] st h = am_go0 cl 175 201 [some (.inr (.inr (some x))), a1, a2] (.inr (.inr (some x)) :: st) h := am_r am_m175 d_175_200 rfl
theorem d_175_201 : am_code 175 201 = some (.bipush 100, 2) := by decide +kernel
theorem s_175_201 (cl : am_C) (ls : am_Ls) (st : List am_V) (h : am_H) : am_go0 cl 175 201 ls st h = am_go0 cl 175 203 ls (.inl 100 :: st) h := am_rB am_m175 d_175_201 (by decide) rfl _ _ _
theorem d_175_203 : am_code 175 203 = some (.iload_n 1, 1) := by decide +kernel
theorem s_175_203 (cl : am_C) (a0 a2 : Option am_V) (x : Int) (st : List am_V) (h : am_H) : am_go0 cl 175 203 [a0, some (.inl x), a2] st h = am_go0 cl 175 204 [a0, some (.inl x), a2] (.inl x :: st) h := am_r am_m175 d_175_203 rfl
theorem d_175_204 : am_code 175 204 = some (.iadd, 1) := by decide +kernel
theorem s_175_204 (cl : am_C) (ls : am_Ls) (x y : Int) (st : List am_V) (h : am_H) : am_go0 cl 175 204 ls (.inl y :: .inl x :: st) h = am_go0 cl 175 205 ls (.inl (am_wr (x + y)) :: st) h := am_r am_m175 d_175_204 rfl
theorem d_175_205 : am_code 175 205 = some (.invokevirtual 249, 3) := by decide +kernel
theorem s_175_205 (cl : am_C) (ls : am_Ls) (x0 : Int) (N : Nat) (I : Nat → Int → Int) (L : Nat → Int → Int64) : am_go0 cl 175 205 ls [.inl x0, .inr (.inr (some 53))] (am_GS N, am_GR, I, L) = am_bd (cl 171 [.inr (.inr (some 53)), .inl x0] (am_GS N, am_GR, I, L)) (fun v h2 => am_go0 cl 175 208 ls (v.toList ++ []) h2) := am_rV am_m175 d_175_205 am_k9249 rfl am_m171 (gs_53 N) (by decide) (Nat.le_of_ble_eq_true rfl) rfl ls
theorem d_175_208 : am_code 175 208 = some (.aload_n 0, 1) := by decide +kernel
theorem s_175_208 (cl : am_C) (a1 a2 : Option am_V) (x : Nat) (st : List am_V) (h : am_H) : am_go0 cl 175 208 [some (.inr (.inr (some x))), a1, a2] st h = am_go0 cl 175 209 [some (.inr (.inr (some x))), a1, a2] (.inr (.inr (some x)) :: st) h := am_r am_m175 d_175_208 rfl
theorem d_175_209 : am_code 175 209 = some (.aload_n 0, 1) := by decide +kernel
theorem s_175_209 (cl : am_C) (a1 a2 : Option am_V) (x : Nat) (st : List am_V) (h : am_H) : am_go0 cl 175 209 [some (.inr (.inr (some x))), a1, a2] st h = am_go0 cl 175 210 [some (.inr (.inr (some x))), a1, a2] (.inr (.inr (some x)) :: st) h := am_r am_m175 d_175_209 rfl
theorem d_175_210 : am_code 175 210 = some (.getfield 71, 3) := by decide +kernel
theorem s_175_210 (cl : am_C) (ls : am_Ls) (st : List am_V) (N : Nat) (I : Nat → Int → Int) (L : Nat → Int → Int64) : am_go0 cl 175 210 ls (.inr (.inr (some 53)) :: st) (am_GS N, am_GR, I, L) = am_go0 cl 175 213 ls (.inr (.inr (some 73)) :: st) (am_GS N, am_GR, I, L) := am_rG2 am_m175 d_175_210 am_f9071 rfl (gs_53 N) (by decide) gr_53_24 rfl
theorem d_175_213 : am_code 175 213 = some (.iload_n 1, 1) := by decide +kernel
theorem s_175_213 (cl : am_C) (a0 a2 : Option am_V) (x : Int) (st : List am_V) (h : am_H) : am_go0 cl 175 213 [a0, some (.inl x), a2] st h = am_go0 cl 175 214 [a0, some (.inl x), a2] (.inl x :: st) h := am_r am_m175 d_175_213 rfl
theorem d_175_214 : am_code 175 214 = some (.iaload, 1) := by decide +kernel
theorem s_175_214 (cl : am_C) (ls : am_Ls) (i : Int) (k : Nat) (st : List am_V) (N : Nat) (I : Nat → Int → Int) (L : Nat → Int → Int64) : am_go0 cl 175 214 ls (.inl i :: .inr (.inr (some k)) :: st) (am_GS N, am_GR, I, L) = if am_inb (am_GS N) k 0 i = true then am_go0 cl 175 215 ls (.inl (I k i) :: st) (am_GS N, am_GR, I, L) else none := am_rA am_m175 d_175_214 (by decide) rfl k ls st i _ _ I L
theorem d_175_215 : am_code 175 215 = some (.invokevirtual 249, 3) := by decide +kernel
theorem s_175_215 (cl : am_C) (ls : am_Ls) (x0 : Int) (N : Nat) (I : Nat → Int → Int) (L : Nat → Int → Int64) : am_go0 cl 175 215 ls [.inl x0, .inr (.inr (some 53))] (am_GS N, am_GR, I, L) = am_bd (cl 171 [.inr (.inr (some 53)), .inl x0] (am_GS N, am_GR, I, L)) (fun v h2 => am_go0 cl 175 218 ls (v.toList ++ []) h2) := am_rV am_m175 d_175_215 am_k9249 rfl am_m171 (gs_53 N) (by decide) (Nat.le_of_ble_eq_true rfl) rfl ls
theorem d_175_218 : am_code 175 218 = some (.aload_n 0, 1) := by decide +kernel
theorem s_175_218 (cl : am_C) (a1 a2 : Option am_V) (x : Nat) (st : List am_V) (h : am_H) : am_go0 cl 175 218 [some (.inr (.inr (some x))), a1, a2] st h = am_go0 cl 175 219 [some (.inr (.inr (some x))), a1, a2] (.inr (.inr (some x)) :: st) h := am_r am_m175 d_175_218 rfl
theorem d_175_219 : am_code 175 219 = some (.aload_n 0, 1) := by decide +kernel
theorem s_175_219 (cl : am_C) (a1 a2 : Option am_V) (x : Nat) (st : List am_V) (h : am_H) : am_go0 cl 175 219 [some (.inr (.inr (some x))), a1, a2] st h = am_go0 cl 175 220 [some (.inr (.inr (some x))), a1, a2] (.inr (.inr (some x)) :: st) h := am_r am_m175 d_175_219 rfl
theorem d_175_220 : am_code 175 220 = some (.getfield 68, 3) := by decide +kernel
theorem s_175_220 (cl : am_C) (ls : am_Ls) (st : List am_V) (N : Nat) (I : Nat → Int → Int) (L : Nat → Int → Int64) : am_go0 cl 175 220 ls (.inr (.inr (some 53)) :: st) (am_GS N, am_GR, I, L) = am_go0 cl 175 223 ls (.inr (.inr (some 72)) :: st) (am_GS N, am_GR, I, L) := am_rG2 am_m175 d_175_220 am_f9068 rfl (gs_53 N) (by decide) gr_53_23 rfl
theorem d_175_223 : am_code 175 223 = some (.iload_n 1, 1) := by decide +kernel
theorem s_175_223 (cl : am_C) (a0 a2 : Option am_V) (x : Int) (st : List am_V) (h : am_H) : am_go0 cl 175 223 [a0, some (.inl x), a2] st h = am_go0 cl 175 224 [a0, some (.inl x), a2] (.inl x :: st) h := am_r am_m175 d_175_223 rfl
theorem d_175_224 : am_code 175 224 = some (.iaload, 1) := by decide +kernel
theorem s_175_224 (cl : am_C) (ls : am_Ls) (i : Int) (k : Nat) (st : List am_V) (N : Nat) (I : Nat → Int → Int) (L : Nat → Int → Int64) : am_go0 cl 175 224 ls (.inl i :: .inr (.inr (some k)) :: st) (am_GS N, am_GR, I, L) = if am_inb (am_GS N) k 0 i = true then am_go0 cl 175 225 ls (.inl (I k i) :: st) (am_GS N, am_GR, I, L) else none := am_rA am_m175 d_175_224 (by decide) rfl k ls st i _ _ I L
theorem d_175_225 : am_code 175 225 = some (.invokevirtual 249, 3) := by decide +kernel
theorem s_175_225 (cl : am_C) (ls : am_Ls) (x0 : Int) (N : Nat) (I : Nat → Int → Int) (L : Nat → Int → Int64) : am_go0 cl 175 225 ls [.inl x0, .inr (.inr (some 53))] (am_GS N, am_GR, I, L) = am_bd (cl 171 [.inr (.inr (some 53)), .inl x0] (am_GS N, am_GR, I, L)) (fun v h2 => am_go0 cl 175 228 ls (v.toList ++ []) h2) := am_rV am_m175 d_175_225 am_k9249 rfl am_m171 (gs_53 N) (by decide) (Nat.le_of_ble_eq_true rfl) rfl ls
theorem d_175_228 : am_code 175 228 = some (.return_, 1) := by decide +kernel
theorem s_175_228 (cl : am_C) (ls : am_Ls) (h : am_H) : am_go0 cl 175 228 ls [] h = some (none, h) := am_rE am_m175 d_175_228 rfl
theorem e_175 (d : Nat) (t : Nat) (p0 : Int) (h : am_H) : am_call (d + 1) 175 [.inr (.inr (some t)), .inl p0] h = am_go0 (am_call d) 175 0 [some (.inr (.inr (some t))), some (.inl p0), none] [] h := am_callE am_m175 (Nat.le_of_ble_eq_true rfl) rfl
theorem d_176_0 : am_code 176 0 = some (.aload_n 0, 1) := by decide +kernel
theorem s_176_0 (cl : am_C) (a1 a2 a3 a4 a5 : Option am_V) (x : Nat) (st : List am_V) (h : am_H) : am_go0 cl 176 0 [some (.inr (.inr (some x))), a1, a2, a3, a4, a5] st h = am_go0 cl 176 1 [some (.inr (.inr (some x))), a1, a2, a3, a4, a5] (.inr (.inr (some x)) :: st) h := am_r am_m176 d_176_0 rfl
theorem d_176_1 : am_code 176 1 = some (.getfield 130, 3) := by decide +kernel
theorem s_176_1 (cl : am_C) (ls : am_Ls) (st : List am_V) (N : Nat) (I : Nat → Int → Int) (L : Nat → Int → Int64) : am_go0 cl 176 1 ls (.inr (.inr (some 53)) :: st) (am_GS N, am_GR, I, L) = am_go0 cl 176 4 ls (.inr (.inr (some 90)) :: st) (am_GS N, am_GR, I, L) := am_rG2 am_m176 d_176_1 am_f9130 rfl (gs_53 N) (by decide) gr_53_46 rfl
theorem d_176_4 : am_code 176 4 = some (.aload_n 0, 1) := by decide +kernel
theorem s_176_4 (cl : am_C) (a1 a2 a3 a4 a5 : Option am_V) (x : Nat) (st : List am_V) (h : am_H) : am_go0 cl 176 4 [some (.inr (.inr (some x))), a1, a2, a3, a4, a5] st h = am_go0 cl 176 5 [some (.inr (.inr (some x))), a1, a2, a3, a4, a5] (.inr (.inr (some x)) :: st) h := am_r am_m176 d_176_4 rfl
theorem d_176_5 : am_code 176 5 = some (.getfield 242, 3) := by decide +kernel
theorem s_176_5 (cl : am_C) (ls : am_Ls) (st : List am_V) (N : Nat) (I : Nat → Int → Int) (L : Nat → Int → Int64) : am_go0 cl 176 5 ls (.inr (.inr (some 53)) :: st) (am_GS N, am_GR, I, L) = am_go0 cl 176 8 ls (.inl (I 53 49) :: st) (am_GS N, am_GR, I, L) := am_rG0 am_m176 d_176_5 am_f9242 rfl (gs_53 N) (by decide) rfl
theorem d_176_8 : am_code 176 8 = some (.iconst 1, 1) := by decide +kernel
theorem s_176_8 (cl : am_C) (ls : am_Ls) (st : List am_V) (h : am_H) : am_go0 cl 176 8 ls st h = am_go0 cl 176 9 ls (.inl 1 :: st) h := am_rK am_m176 d_176_8 (by decide) rfl _ _ _
theorem d_176_9 : am_code 176 9 = some (.isub, 1) := by decide +kernel
theorem s_176_9 (cl : am_C) (ls : am_Ls) (x y : Int) (st : List am_V) (h : am_H) : am_go0 cl 176 9 ls (.inl y :: .inl x :: st) h = am_go0 cl 176 10 ls (.inl (am_wr (x - y)) :: st) h := am_r am_m176 d_176_9 rfl
theorem d_176_10 : am_code 176 10 = some (.iaload, 1) := by decide +kernel
theorem s_176_10 (cl : am_C) (ls : am_Ls) (i : Int) (k : Nat) (st : List am_V) (N : Nat) (I : Nat → Int → Int) (L : Nat → Int → Int64) : am_go0 cl 176 10 ls (.inl i :: .inr (.inr (some k)) :: st) (am_GS N, am_GR, I, L) = if am_inb (am_GS N) k 0 i = true then am_go0 cl 176 11 ls (.inl (I k i) :: st) (am_GS N, am_GR, I, L) else none := am_rA am_m176 d_176_10 (by decide) rfl k ls st i _ _ I L
theorem d_176_11 : am_code 176 11 = some (.istore_n 2, 1) := by decide +kernel
theorem s_176_11 (cl : am_C) (a0 a1 a2 a3 a4 a5 : Option am_V) (x : Int) (st : List am_V) (h : am_H) : am_go0 cl 176 11 [a0, a1, a2, a3, a4, a5] (.inl x :: st) h = am_go0 cl 176 12 [a0, am_c1 a1, some (.inl x), a3, a4, a5] st h := am_r am_m176 d_176_11 rfl
theorem d_176_12 : am_code 176 12 = some (.aload_n 0, 1) := by decide +kernel
theorem s_176_12 (cl : am_C) (a1 a2 a3 a4 a5 : Option am_V) (x : Nat) (st : List am_V) (h : am_H) : am_go0 cl 176 12 [some (.inr (.inr (some x))), a1, a2, a3, a4, a5] st h = am_go0 cl 176 13 [some (.inr (.inr (some x))), a1, a2, a3, a4, a5] (.inr (.inr (some x)) :: st) h := am_r am_m176 d_176_12 rfl
theorem d_176_13 : am_code 176 13 = some (.getfield 87, 3) := by decide +kernel
theorem s_176_13 (cl : am_C) (ls : am_Ls) (st : List am_V) (N : Nat) (I : Nat → Int → Int) (L : Nat → Int → Int64) : am_go0 cl 176 13 ls (.inr (.inr (some 53)) :: st) (am_GS N, am_GR, I, L) = am_go0 cl 176 16 ls (.inr (.inr (some 78)) :: st) (am_GS N, am_GR, I, L) := am_rG2 am_m176 d_176_13 am_f9087 rfl (gs_53 N) (by decide) gr_53_30 rfl
theorem d_176_16 : am_code 176 16 = some (.iload_n 2, 1) := by decide +kernel
theorem s_176_16 (cl : am_C) (a0 a1 a3 a4 a5 : Option am_V) (x : Int) (st : List am_V) (h : am_H) : am_go0 cl 176 16 [a0, a1, some (.inl x), a3, a4, a5] st h = am_go0 cl 176 17 [a0, a1, some (.inl x), a3, a4, a5] (.inl x :: st) h := am_r am_m176 d_176_16 rfl
theorem d_176_17 : am_code 176 17 = some (.iaload, 1) := by decide +kernel
theorem s_176_17 (cl : am_C) (ls : am_Ls) (i : Int) (k : Nat) (st : List am_V) (N : Nat) (I : Nat → Int → Int) (L : Nat → Int → Int64) : am_go0 cl 176 17 ls (.inl i :: .inr (.inr (some k)) :: st) (am_GS N, am_GR, I, L) = if am_inb (am_GS N) k 0 i = true then am_go0 cl 176 18 ls (.inl (I k i) :: st) (am_GS N, am_GR, I, L) else none := am_rA am_m176 d_176_17 (by decide) rfl k ls st i _ _ I L
theorem d_176_18 : am_code 176 18 = some (.istore_n 3, 1) := by decide +kernel
theorem s_176_18 (cl : am_C) (a0 a1 a2 a3 a4 a5 : Option am_V) (x : Int) (st : List am_V) (h : am_H) : am_go0 cl 176 18 [a0, a1, a2, a3, a4, a5] (.inl x :: st) h = am_go0 cl 176 19 [a0, a1, am_c1 a2, some (.inl x), a4, a5] st h := am_r am_m176 d_176_18 rfl
theorem d_176_19 : am_code 176 19 = some (.aload_n 0, 1) := by decide +kernel
theorem s_176_19 (cl : am_C) (a1 a2 a3 a4 a5 : Option am_V) (x : Nat) (st : List am_V) (h : am_H) : am_go0 cl 176 19 [some (.inr (.inr (some x))), a1, a2, a3, a4, a5] st h = am_go0 cl 176 20 [some (.inr (.inr (some x))), a1, a2, a3, a4, a5] (.inr (.inr (some x)) :: st) h := am_r am_m176 d_176_19 rfl
theorem d_176_20 : am_code 176 20 = some (.getfield 136, 3) := by decide +kernel
theorem s_176_20 (cl : am_C) (ls : am_Ls) (st : List am_V) (N : Nat) (I : Nat → Int → Int) (L : Nat → Int → Int64) : am_go0 cl 176 20 ls (.inr (.inr (some 53)) :: st) (am_GS N, am_GR, I, L) = am_go0 cl 176 23 ls (.inr (.inr (some 92)) :: st) (am_GS N, am_GR, I, L) := am_rG2 am_m176 d_176_20 am_f9136 rfl (gs_53 N) (by decide) gr_53_48 rfl
theorem d_176_23 : am_code 176 23 = some (.aload_n 0, 1) := by decide +kernel
theorem s_176_23 (cl : am_C) (a1 a2 a3 a4 a5 : Option am_V) (x : Nat) (st : List am_V) (h : am_H) : am_go0 cl 176 23 [some (.inr (.inr (some x))), a1, a2, a3, a4, a5] st h = am_go0 cl 176 24 [some (.inr (.inr (some x))), a1, a2, a3, a4, a5] (.inr (.inr (some x)) :: st) h := am_r am_m176 d_176_23 rfl
theorem d_176_24 : am_code 176 24 = some (.getfield 242, 3) := by decide +kernel
theorem s_176_24 (cl : am_C) (ls : am_Ls) (st : List am_V) (N : Nat) (I : Nat → Int → Int) (L : Nat → Int → Int64) : am_go0 cl 176 24 ls (.inr (.inr (some 53)) :: st) (am_GS N, am_GR, I, L) = am_go0 cl 176 27 ls (.inl (I 53 49) :: st) (am_GS N, am_GR, I, L) := am_rG0 am_m176 d_176_24 am_f9242 rfl (gs_53 N) (by decide) rfl
theorem d_176_27 : am_code 176 27 = some (.iconst 1, 1) := by decide +kernel
theorem s_176_27 (cl : am_C) (ls : am_Ls) (st : List am_V) (h : am_H) : am_go0 cl 176 27 ls st h = am_go0 cl 176 28 ls (.inl 1 :: st) h := am_rK am_m176 d_176_27 (by decide) rfl _ _ _
theorem d_176_28 : am_code 176 28 = some (.isub, 1) := by decide +kernel
theorem s_176_28 (cl : am_C) (ls : am_Ls) (x y : Int) (st : List am_V) (h : am_H) : am_go0 cl 176 28 ls (.inl y :: .inl x :: st) h = am_go0 cl 176 29 ls (.inl (am_wr (x - y)) :: st) h := am_r am_m176 d_176_28 rfl
theorem d_176_29 : am_code 176 29 = some (.baload, 1) := by decide +kernel
theorem s_176_29 (cl : am_C) (ls : am_Ls) (i : Int) (k : Nat) (st : List am_V) (N : Nat) (I : Nat → Int → Int) (L : Nat → Int → Int64) : am_go0 cl 176 29 ls (.inl i :: .inr (.inr (some k)) :: st) (am_GS N, am_GR, I, L) = if am_inb (am_GS N) k 2 i = true then am_go0 cl 176 30 ls (.inl (I k i) :: st) (am_GS N, am_GR, I, L) else none := am_rAb am_m176 d_176_29 rfl k ls st i _ _ I L
theorem d_176_30 : am_code 176 30 = some (.ifCond .eq 18, 3) := by decide +kernel
theorem s_176_30 (cl : am_C) (ls : am_Ls) (x : Int) (st : List am_V) (h : am_H) : am_go0 cl 176 30 ls (.inl x :: st) h = if x = 0 then am_go0 cl 176 48 ls st h else am_go0 cl 176 33 ls st h := (am_rJ1 am_m176 d_176_30 (by decide) rfl x ls st h).trans (am_ifT (am_cmp_eq x 0) _ _)
theorem d_176_33 : am_code 176 33 = some (.aload_n 0, 1) := by decide +kernel
theorem s_176_33 (cl : am_C) (a1 a2 a3 a4 a5 : Option am_V) (x : Nat) (st : List am_V) (h : am_H) : am_go0 cl 176 33 [some (.inr (.inr (some x))), a1, a2, a3, a4, a5] st h = am_go0 cl 176 34 [some (.inr (.inr (some x))), a1, a2, a3, a4, a5] (.inr (.inr (some x)) :: st) h := am_r am_m176 d_176_33 rfl
theorem d_176_34 : am_code 176 34 = some (.aload_n 0, 1) := by decide +kernel
theorem s_176_34 (cl : am_C) (a1 a2 a3 a4 a5 : Option am_V) (x : Nat) (st : List am_V) (h : am_H) : am_go0 cl 176 34 [some (.inr (.inr (some x))), a1, a2, a3, a4, a5] st h = am_go0 cl 176 35 [some (.inr (.inr (some x))), a1, a2, a3, a4, a5] (.inr (.inr (some x)) :: st) h := am_r am_m176 d_176_34 rfl
theorem d_176_35 : am_code 176 35 = some (.getfield 71, 3) := by decide +kernel
theorem s_176_35 (cl : am_C) (ls : am_Ls) (st : List am_V) (N : Nat) (I : Nat → Int → Int) (L : Nat → Int → Int64) : am_go0 cl 176 35 ls (.inr (.inr (some 53)) :: st) (am_GS N, am_GR, I, L) = am_go0 cl 176 38 ls (.inr (.inr (some 73)) :: st) (am_GS N, am_GR, I, L) := am_rG2 am_m176 d_176_35 am_f9071 rfl (gs_53 N) (by decide) gr_53_24 rfl
theorem d_176_38 : am_code 176 38 = some (.iload_n 1, 1) := by decide +kernel
theorem s_176_38 (cl : am_C) (a0 a2 a3 a4 a5 : Option am_V) (x : Int) (st : List am_V) (h : am_H) : am_go0 cl 176 38 [a0, some (.inl x), a2, a3, a4, a5] st h = am_go0 cl 176 39 [a0, some (.inl x), a2, a3, a4, a5] (.inl x :: st) h := am_r am_m176 d_176_38 rfl
theorem d_176_39 : am_code 176 39 = some (.iaload, 1) := by decide +kernel
theorem s_176_39 (cl : am_C) (ls : am_Ls) (i : Int) (k : Nat) (st : List am_V) (N : Nat) (I : Nat → Int → Int) (L : Nat → Int → Int64) : am_go0 cl 176 39 ls (.inl i :: .inr (.inr (some k)) :: st) (am_GS N, am_GR, I, L) = if am_inb (am_GS N) k 0 i = true then am_go0 cl 176 40 ls (.inl (I k i) :: st) (am_GS N, am_GR, I, L) else none := am_rA am_m176 d_176_39 (by decide) rfl k ls st i _ _ I L
theorem d_176_40 : am_code 176 40 = some (.iload_n 3, 1) := by decide +kernel
theorem s_176_40 (cl : am_C) (a0 a1 a2 a4 a5 : Option am_V) (x : Int) (st : List am_V) (h : am_H) : am_go0 cl 176 40 [a0, a1, a2, some (.inl x), a4, a5] st h = am_go0 cl 176 41 [a0, a1, a2, some (.inl x), a4, a5] (.inl x :: st) h := am_r am_m176 d_176_40 rfl
theorem d_176_41 : am_code 176 41 = some (.iconst (-1), 1) := by decide +kernel
theorem s_176_41 (cl : am_C) (ls : am_Ls) (st : List am_V) (h : am_H) : am_go0 cl 176 41 ls st h = am_go0 cl 176 42 ls (.inl (-1) :: st) h := am_rK am_m176 d_176_41 (by decide) rfl _ _ _
theorem d_176_42 : am_code 176 42 = some (.invokevirtual 253, 3) := by decide +kernel
theorem s_176_42 (cl : am_C) (ls : am_Ls) (x0 : Int) (x1 : Int) (x2 : Int) (N : Nat) (I : Nat → Int → Int) (L : Nat → Int → Int64) : am_go0 cl 176 42 ls [.inl x2, .inl x1, .inl x0, .inr (.inr (some 53))] (am_GS N, am_GR, I, L) = am_bd (cl 177 [.inr (.inr (some 53)), .inl x0, .inl x1, .inl x2] (am_GS N, am_GR, I, L)) (fun v h2 => am_go0 cl 176 45 ls (v.toList ++ []) h2) := am_rV am_m176 d_176_42 am_k9253 rfl am_m177 (gs_53 N) (by decide) (Nat.le_of_ble_eq_true rfl) rfl ls
theorem d_176_45 : am_code 176 45 = some (.goto 25, 3) := by decide +kernel
theorem s_176_45 (cl : am_C) (ls : am_Ls) (st : List am_V) (h : am_H) : am_go0 cl 176 45 ls st h = am_go0 cl 176 70 ls st h := am_rGo am_m176 d_176_45 (by decide) _ _ _
theorem d_176_48 : am_code 176 48 = some (.aload_n 0, 1) := by decide +kernel
theorem s_176_48 (cl : am_C) (a1 a2 a3 a4 a5 : Option am_V) (x : Nat) (st : List am_V) (h : am_H) : am_go0 cl 176 48 [some (.inr (.inr (some x))), a1, a2, a3, a4, a5] st h = am_go0 cl 176 49 [some (.inr (.inr (some x))), a1, a2, a3, a4, a5] (.inr (.inr (some x)) :: st) h := am_r am_m176 d_176_48 rfl
theorem d_176_49 : am_code 176 49 = some (.aload_n 0, 1) := by decide +kernel
theorem s_176_49 (cl : am_C) (a1 a2 a3 a4 a5 : Option am_V) (x : Nat) (st : List am_V) (h : am_H) : am_go0 cl 176 49 [some (.inr (.inr (some x))), a1, a2, a3, a4, a5] st h = am_go0 cl 176 50 [some (.inr (.inr (some x))), a1, a2, a3, a4, a5] (.inr (.inr (some x)) :: st) h := am_r am_m176 d_176_49 rfl
theorem d_176_50 : am_code 176 50 = some (.getfield 71, 3) := by decide +kernel
theorem s_176_50 (cl : am_C) (ls : am_Ls) (st : List am_V) (N : Nat) (I : Nat → Int → Int) (L : Nat → Int → Int64) : am_go0 cl 176 50 ls (.inr (.inr (some 53)) :: st) (am_GS N, am_GR, I, L) = am_go0 cl 176 53 ls (.inr (.inr (some 73)) :: st) (am_GS N, am_GR, I, L) := am_rG2 am_m176 d_176_50 am_f9071 rfl (gs_53 N) (by decide) gr_53_24 rfl
theorem d_176_53 : am_code 176 53 = some (.iload_n 1, 1) := by decide +kernel
theorem s_176_53 (cl : am_C) (a0 a2 a3 a4 a5 : Option am_V) (x : Int) (st : List am_V) (h : am_H) : am_go0 cl 176 53 [a0, some (.inl x), a2, a3, a4, a5] st h = am_go0 cl 176 54 [a0, some (.inl x), a2, a3, a4, a5] (.inl x :: st) h := am_r am_m176 d_176_53 rfl
theorem d_176_54 : am_code 176 54 = some (.iaload, 1) := by decide +kernel
theorem s_176_54 (cl : am_C) (ls : am_Ls) (i : Int) (k : Nat) (st : List am_V) (N : Nat) (I : Nat → Int → Int) (L : Nat → Int → Int64) : am_go0 cl 176 54 ls (.inl i :: .inr (.inr (some k)) :: st) (am_GS N, am_GR, I, L) = if am_inb (am_GS N) k 0 i = true then am_go0 cl 176 55 ls (.inl (I k i) :: st) (am_GS N, am_GR, I, L) else none := am_rA am_m176 d_176_54 (by decide) rfl k ls st i _ _ I L
theorem d_176_55 : am_code 176 55 = some (.aload_n 0, 1) := by decide +kernel
theorem s_176_55 (cl : am_C) (a1 a2 a3 a4 a5 : Option am_V) (x : Nat) (st : List am_V) (h : am_H) : am_go0 cl 176 55 [some (.inr (.inr (some x))), a1, a2, a3, a4, a5] st h = am_go0 cl 176 56 [some (.inr (.inr (some x))), a1, a2, a3, a4, a5] (.inr (.inr (some x)) :: st) h := am_r am_m176 d_176_55 rfl
theorem d_176_56 : am_code 176 56 = some (.getfield 20, 3) := by decide +kernel
theorem s_176_56 (cl : am_C) (ls : am_Ls) (st : List am_V) (N : Nat) (I : Nat → Int → Int) (L : Nat → Int → Int64) : am_go0 cl 176 56 ls (.inr (.inr (some 53)) :: st) (am_GS N, am_GR, I, L) = am_go0 cl 176 59 ls (.inr (.inr (some 56)) :: st) (am_GS N, am_GR, I, L) := am_rG2 am_m176 d_176_56 am_f9020 rfl (gs_53 N) (by decide) gr_53_4 rfl
theorem d_176_59 : am_code 176 59 = some (.iload_n 3, 1) := by decide +kernel
theorem s_176_59 (cl : am_C) (a0 a1 a2 a4 a5 : Option am_V) (x : Int) (st : List am_V) (h : am_H) : am_go0 cl 176 59 [a0, a1, a2, some (.inl x), a4, a5] st h = am_go0 cl 176 60 [a0, a1, a2, some (.inl x), a4, a5] (.inl x :: st) h := am_r am_m176 d_176_59 rfl
theorem d_176_60 : am_code 176 60 = some (.iaload, 1) := by decide +kernel
theorem s_176_60 (cl : am_C) (ls : am_Ls) (i : Int) (k : Nat) (st : List am_V) (N : Nat) (I : Nat → Int → Int) (L : Nat → Int → Int64) : am_go0 cl 176 60 ls (.inl i :: .inr (.inr (some k)) :: st) (am_GS N, am_GR, I, L) = if am_inb (am_GS N) k 0 i = true then am_go0 cl 176 61 ls (.inl (I k i) :: st) (am_GS N, am_GR, I, L) else none := am_rA am_m176 d_176_60 (by decide) rfl k ls st i _ _ I L
theorem d_176_61 : am_code 176 61 = some (.aload_n 0, 1) := by decide +kernel
theorem s_176_61 (cl : am_C) (a1 a2 a3 a4 a5 : Option am_V) (x : Nat) (st : List am_V) (h : am_H) : am_go0 cl 176 61 [some (.inr (.inr (some x))), a1, a2, a3, a4, a5] st h = am_go0 cl 176 62 [some (.inr (.inr (some x))), a1, a2, a3, a4, a5] (.inr (.inr (some x)) :: st) h := am_r am_m176 d_176_61 rfl
theorem d_176_62 : am_code 176 62 = some (.getfield 23, 3) := by decide +kernel
theorem s_176_62 (cl : am_C) (ls : am_Ls) (st : List am_V) (N : Nat) (I : Nat → Int → Int) (L : Nat → Int → Int64) : am_go0 cl 176 62 ls (.inr (.inr (some 53)) :: st) (am_GS N, am_GR, I, L) = am_go0 cl 176 65 ls (.inr (.inr (some 57)) :: st) (am_GS N, am_GR, I, L) := am_rG2 am_m176 d_176_62 am_f9023 rfl (gs_53 N) (by decide) gr_53_5 rfl
theorem d_176_65 : am_code 176 65 = some (.iload_n 3, 1) := by decide +kernel
theorem s_176_65 (cl : am_C) (a0 a1 a2 a4 a5 : Option am_V) (x : Int) (st : List am_V) (h : am_H) : am_go0 cl 176 65 [a0, a1, a2, some (.inl x), a4, a5] st h = am_go0 cl 176 66 [a0, a1, a2, some (.inl x), a4, a5] (.inl x :: st) h := am_r am_m176 d_176_65 rfl
theorem d_176_66 : am_code 176 66 = some (.iaload, 1) := by decide +kernel
theorem s_176_66 (cl : am_C) (ls : am_Ls) (i : Int) (k : Nat) (st : List am_V) (N : Nat) (I : Nat → Int → Int) (L : Nat → Int → Int64) : am_go0 cl 176 66 ls (.inl i :: .inr (.inr (some k)) :: st) (am_GS N, am_GR, I, L) = if am_inb (am_GS N) k 0 i = true then am_go0 cl 176 67 ls (.inl (I k i) :: st) (am_GS N, am_GR, I, L) else none := am_rA am_m176 d_176_66 (by decide) rfl k ls st i _ _ I L
theorem d_176_67 : am_code 176 67 = some (.invokevirtual 253, 3) := by decide +kernel
theorem s_176_67 (cl : am_C) (ls : am_Ls) (x0 : Int) (x1 : Int) (x2 : Int) (N : Nat) (I : Nat → Int → Int) (L : Nat → Int → Int64) : am_go0 cl 176 67 ls [.inl x2, .inl x1, .inl x0, .inr (.inr (some 53))] (am_GS N, am_GR, I, L) = am_bd (cl 177 [.inr (.inr (some 53)), .inl x0, .inl x1, .inl x2] (am_GS N, am_GR, I, L)) (fun v h2 => am_go0 cl 176 70 ls (v.toList ++ []) h2) := am_rV am_m176 d_176_67 am_k9253 rfl am_m177 (gs_53 N) (by decide) (Nat.le_of_ble_eq_true rfl) rfl ls
theorem d_176_70 : am_code 176 70 = some (.istore 4, 2) := by decide +kernel
theorem s_176_70 (cl : am_C) (a0 a1 a2 a3 a4 a5 : Option am_V) (x : Int) (st : List am_V) (h : am_H) : am_go0 cl 176 70 [a0, a1, a2, a3, a4, a5] (.inl x :: st) h = am_go0 cl 176 72 [a0, a1, a2, am_c1 a3, some (.inl x), a5] st h := am_r am_m176 d_176_70 rfl
theorem d_176_72 : am_code 176 72 = some (.iload 4, 2) := by decide +kernel
theorem s_176_72 (cl : am_C) (a0 a1 a2 a3 a5 : Option am_V) (x : Int) (st : List am_V) (h : am_H) : am_go0 cl 176 72 [a0, a1, a2, a3, some (.inl x), a5] st h = am_go0 cl 176 74 [a0, a1, a2, a3, some (.inl x), a5] (.inl x :: st) h := am_r am_m176 d_176_72 rfl
theorem d_176_74 : am_code 176 74 = some (.bipush (-3), 2) := by decide +kernel
theorem s_176_74 (cl : am_C) (ls : am_Ls) (st : List am_V) (h : am_H) : am_go0 cl 176 74 ls st h = am_go0 cl 176 76 ls (.inl (-3) :: st) h := am_rB am_m176 d_176_74 (by decide) rfl _ _ _
theorem d_176_76 : am_code 176 76 = some (.if_icmp .ne 8, 3) := by decide +kernel
theorem s_176_76 (cl : am_C) (ls : am_Ls) (x y : Int) (st : List am_V) (h : am_H) : am_go0 cl 176 76 ls (.inl y :: .inl x :: st) h = if x = y then am_go0 cl 176 79 ls st h else am_go0 cl 176 84 ls st h := (am_rJ0 am_m176 d_176_76 (by decide) rfl x y ls st h).trans (am_ifF ((am_cmp_ne x y).trans Iff.rfl) _ _)
theorem d_176_79 : am_code 176 79 = some (.bipush (-3), 2) := by decide +kernel
theorem s_176_79 (cl : am_C) (ls : am_Ls) (st : List am_V) (h : am_H) : am_go0 cl 176 79 ls st h = am_go0 cl 176 81 ls (.inl (-3) :: st) h := am_rB am_m176 d_176_79 (by decide) rfl _ _ _
theorem d_176_81 : am_code 176 81 = some (.goto 15, 3) := by decide +kernel
theorem s_176_81 (cl : am_C) (ls : am_Ls) (st : List am_V) (h : am_H) : am_go0 cl 176 81 ls st h = am_go0 cl 176 96 ls st h := am_rGo am_m176 d_176_81 (by decide) _ _ _
theorem d_176_84 : am_code 176 84 = some (.aload_n 0, 1) := by decide +kernel
theorem s_176_84 (cl : am_C) (a1 a2 a3 a4 a5 : Option am_V) (x : Nat) (st : List am_V) (h : am_H) : am_go0 cl 176 84 [some (.inr (.inr (some x))), a1, a2, a3, a4, a5] st h = am_go0 cl 176 85 [some (.inr (.inr (some x))), a1, a2, a3, a4, a5] (.inr (.inr (some x)) :: st) h := am_r am_m176 d_176_84 rfl
theorem d_176_85 : am_code 176 85 = some (.aload_n 0, 1) := by decide +kernel
theorem s_176_85 (cl : am_C) (a1 a2 a3 a4 a5 : Option am_V) (x : Nat) (st : List am_V) (h : am_H) : am_go0 cl 176 85 [some (.inr (.inr (some x))), a1, a2, a3, a4, a5] st h = am_go0 cl 176 86 [some (.inr (.inr (some x))), a1, a2, a3, a4, a5] (.inr (.inr (some x)) :: st) h := am_r am_m176 d_176_85 rfl
theorem d_176_86 : am_code 176 86 = some (.getfield 68, 3) := by decide +kernel
theorem s_176_86 (cl : am_C) (ls : am_Ls) (st : List am_V) (N : Nat) (I : Nat → Int → Int) (L : Nat → Int → Int64) : am_go0 cl 176 86 ls (.inr (.inr (some 53)) :: st) (am_GS N, am_GR, I, L) = am_go0 cl 176 89 ls (.inr (.inr (some 72)) :: st) (am_GS N, am_GR, I, L) := am_rG2 am_m176 d_176_86 am_f9068 rfl (gs_53 N) (by decide) gr_53_23 rfl
theorem d_176_89 : am_code 176 89 = some (.iload_n 1, 1) := by decide +kernel
theorem s_176_89 (cl : am_C) (a0 a2 a3 a4 a5 : Option am_V) (x : Int) (st : List am_V) (h : am_H) : am_go0 cl 176 89 [a0, some (.inl x), a2, a3, a4, a5] st h = am_go0 cl 176 90 [a0, some (.inl x), a2, a3, a4, a5] (.inl x :: st) h := am_r am_m176 d_176_89 rfl
theorem d_176_90 : am_code 176 90 = some (.iaload, 1) := by decide +kernel
theorem s_176_90 (cl : am_C) (ls : am_Ls) (i : Int) (k : Nat) (st : List am_V) (N : Nat) (I : Nat → Int → Int) (L : Nat → Int → Int64) : am_go0 cl 176 90 ls (.inl i :: .inr (.inr (some k)) :: st) (am_GS N, am_GR, I, L) = if am_inb (am_GS N) k 0 i = true then am_go0 cl 176 91 ls (.inl (I k i) :: st) (am_GS N, am_GR, I, L) else none := am_rA am_m176 d_176_90 (by decide) rfl k ls st i _ _ I L
theorem d_176_91 : am_code 176 91 = some (.iload 4, 2) := by decide +kernel
theorem s_176_91 (cl : am_C) (a0 a1 a2 a3 a5 : Option am_V) (x : Int) (st : List am_V) (h : am_H) : am_go0 cl 176 91 [a0, a1, a2, a3, some (.inl x), a5] st h = am_go0 cl 176 93 [a0, a1, a2, a3, some (.inl x), a5] (.inl x :: st) h := am_r am_m176 d_176_91 rfl
theorem d_176_93 : am_code 176 93 = some (.invokevirtual 220, 3) := by decide +kernel
theorem s_176_93 (cl : am_C) (ls : am_Ls) (x0 : Int) (x1 : Int) (N : Nat) (I : Nat → Int → Int) (L : Nat → Int → Int64) : am_go0 cl 176 93 ls [.inl x1, .inl x0, .inr (.inr (some 53))] (am_GS N, am_GR, I, L) = am_bd (cl 157 [.inr (.inr (some 53)), .inl x0, .inl x1] (am_GS N, am_GR, I, L)) (fun v h2 => am_go0 cl 176 96 ls (v.toList ++ []) h2) := am_rV am_m176 d_176_93 am_k9220 rfl am_m157 (gs_53 N) (by decide) (Nat.le_of_ble_eq_true rfl) rfl ls
theorem d_176_96 : am_code 176 96 = some (.istore 5, 2) := by decide +kernel
theorem s_176_96 (cl : am_C) (a0 a1 a2 a3 a4 a5 : Option am_V) (x : Int) (st : List am_V) (h : am_H) : am_go0 cl 176 96 [a0, a1, a2, a3, a4, a5] (.inl x :: st) h = am_go0 cl 176 98 [a0, a1, a2, a3, am_c1 a4, some (.inl x)] st h := am_r am_m176 d_176_96 rfl
theorem d_176_98 : am_code 176 98 = some (.iload 5, 2) := by decide +kernel
theorem s_176_98 (cl : am_C) (a0 a1 a2 a3 a4 : Option am_V) (x : Int) (st : List am_V) (h : am_H) : am_go0 cl 176 98 [a0, a1, a2, a3, a4, some (.inl x)] st h = am_go0 cl 176 100 [a0, a1, a2, a3, a4, some (.inl x)] (.inl x :: st) h := am_r am_m176 d_176_98 rfl
theorem d_176_100 : am_code 176 100 = some (.ifCond .ge 22, 3) := by decide +kernel
theorem s_176_100 (cl : am_C) (ls : am_Ls) (x : Int) (st : List am_V) (h : am_H) : am_go0 cl 176 100 ls (.inl x :: st) h = if x < 0 then am_go0 cl 176 103 ls st h else am_go0 cl 176 122 ls st h := (am_rJ1 am_m176 d_176_100 (by decide) rfl x ls st h).trans (am_ifF ((am_cmp_ge x 0).trans Int.not_lt.symm) _ _)
theorem d_176_103 : am_code 176 103 = some (.aload_n 0, 1) := by decide +kernel
theorem s_176_103 (cl : am_C) (a1 a2 a3 a4 a5 : Option am_V) (x : Nat) (st : List am_V) (h : am_H) : am_go0 cl 176 103 [some (.inr (.inr (some x))), a1, a2, a3, a4, a5] st h = am_go0 cl 176 104 [some (.inr (.inr (some x))), a1, a2, a3, a4, a5] (.inr (.inr (some x)) :: st) h := am_r am_m176 d_176_103 rfl
theorem d_176_104 : am_code 176 104 = some (.iload 5, 2) := by decide +kernel
theorem s_176_104 (cl : am_C) (a0 a1 a2 a3 a4 : Option am_V) (x : Int) (st : List am_V) (h : am_H) : am_go0 cl 176 104 [a0, a1, a2, a3, a4, some (.inl x)] st h = am_go0 cl 176 106 [a0, a1, a2, a3, a4, some (.inl x)] (.inl x :: st) h := am_r am_m176 d_176_104 rfl
theorem d_176_106 : am_code 176 106 = some (.bipush (-3), 2) := by decide +kernel
theorem s_176_106 (cl : am_C) (ls : am_Ls) (st : List am_V) (h : am_H) : am_go0 cl 176 106 ls st h = am_go0 cl 176 108 ls (.inl (-3) :: st) h := am_rB am_m176 d_176_106 (by decide) rfl _ _ _
theorem d_176_108 : am_code 176 108 = some (.if_icmp .ne 7, 3) := by decide +kernel
theorem s_176_108 (cl : am_C) (ls : am_Ls) (x y : Int) (st : List am_V) (h : am_H) : am_go0 cl 176 108 ls (.inl y :: .inl x :: st) h = if x = y then am_go0 cl 176 111 ls st h else am_go0 cl 176 115 ls st h := (am_rJ0 am_m176 d_176_108 (by decide) rfl x y ls st h).trans (am_ifF ((am_cmp_ne x y).trans Iff.rfl) _ _)
theorem d_176_111 : am_code 176 111 = some (.iconst 5, 1) := by decide +kernel
theorem s_176_111 (cl : am_C) (ls : am_Ls) (st : List am_V) (h : am_H) : am_go0 cl 176 111 ls st h = am_go0 cl 176 112 ls (.inl 5 :: st) h := am_rK am_m176 d_176_111 (by decide) rfl _ _ _
theorem d_176_112 : am_code 176 112 = some (.goto 4, 3) := by decide +kernel
theorem s_176_112 (cl : am_C) (ls : am_Ls) (st : List am_V) (h : am_H) : am_go0 cl 176 112 ls st h = am_go0 cl 176 116 ls st h := am_rGo am_m176 d_176_112 (by decide) _ _ _
theorem d_176_115 : am_code 176 115 = some (.iconst 4, 1) := by decide +kernel
theorem s_176_115 (cl : am_C) (ls : am_Ls) (st : List am_V) (h : am_H) : am_go0 cl 176 115 ls st h = am_go0 cl 176 116 ls (.inl 4 :: st) h := am_rK am_m176 d_176_115 (by decide) rfl _ _ _
theorem d_176_116 : am_code 176 116 = some (.invokevirtual 256, 3) := by decide +kernel
theorem s_176_116 (cl : am_C) (ls : am_Ls) (x0 : Int) (N : Nat) (I : Nat → Int → Int) (L : Nat → Int → Int64) : am_go0 cl 176 116 ls [.inl x0, .inr (.inr (some 53))] (am_GS N, am_GR, I, L) = am_bd (cl 174 [.inr (.inr (some 53)), .inl x0] (am_GS N, am_GR, I, L)) (fun v h2 => am_go0 cl 176 119 ls (v.toList ++ []) h2) := am_rV am_m176 d_176_116 am_k9256 rfl am_m174 (gs_53 N) (by decide) (Nat.le_of_ble_eq_true rfl) rfl ls
theorem d_176_119 : am_code 176 119 = some (.goto 15, 3) := by decide +kernel
theorem s_176_119 (cl : am_C) (ls : am_Ls) (st : List am_V) (h : am_H) : am_go0 cl 176 119 ls st h = am_go0 cl 176 134 ls st h := am_rGo am_m176 d_176_119 (by decide) _ _ _
theorem d_176_122 : am_code 176 122 = some (.aload_n 0, 1) := by decide +kernel
theorem s_176_122 (cl : am_C) (a1 a2 a3 a4 a5 : Option am_V) (x : Nat) (st : List am_V) (h : am_H) : am_go0 cl 176 122 [some (.inr (.inr (some x))), a1, a2, a3, a4, a5] st h = am_go0 cl 176 123 [some (.inr (.inr (some x))), a1, a2, a3, a4, a5] (.inr (.inr (some x)) :: st) h := am_r am_m176 d_176_122 rfl
theorem d_176_123 : am_code 176 123 = some (.iload 5, 2) := by decide +kernel
theorem s_176_123 (cl : am_C) (a0 a1 a2 a3 a4 : Option am_V) (x : Int) (st : List am_V) (h : am_H) : am_go0 cl 176 123 [a0, a1, a2, a3, a4, some (.inl x)] st h = am_go0 cl 176 125 [a0, a1, a2, a3, a4, some (.inl x)] (.inl x :: st) h := am_r am_m176 d_176_123 rfl
theorem d_176_125 : am_code 176 125 = some (.aload_n 0, 1) := by decide +kernel
theorem s_176_125 (cl : am_C) (a1 a2 a3 a4 a5 : Option am_V) (x : Nat) (st : List am_V) (h : am_H) : am_go0 cl 176 125 [some (.inr (.inr (some x))), a1, a2, a3, a4, a5] st h = am_go0 cl 176 126 [some (.inr (.inr (some x))), a1, a2, a3, a4, a5] (.inr (.inr (some x)) :: st) h := am_r am_m176 d_176_125 rfl
theorem d_176_126 : am_code 176 126 = some (.getfield 74, 3) := by decide +kernel
theorem s_176_126 (cl : am_C) (ls : am_Ls) (st : List am_V) (N : Nat) (I : Nat → Int → Int) (L : Nat → Int → Int64) : am_go0 cl 176 126 ls (.inr (.inr (some 53)) :: st) (am_GS N, am_GR, I, L) = am_go0 cl 176 129 ls (.inr (.inr (some 74)) :: st) (am_GS N, am_GR, I, L) := am_rG2 am_m176 d_176_126 am_f9074 rfl (gs_53 N) (by decide) gr_53_25 rfl
theorem d_176_129 : am_code 176 129 = some (.iload_n 1, 1) := by decide +kernel
theorem s_176_129 (cl : am_C) (a0 a2 a3 a4 a5 : Option am_V) (x : Int) (st : List am_V) (h : am_H) : am_go0 cl 176 129 [a0, some (.inl x), a2, a3, a4, a5] st h = am_go0 cl 176 130 [a0, some (.inl x), a2, a3, a4, a5] (.inl x :: st) h := am_r am_m176 d_176_129 rfl
theorem d_176_130 : am_code 176 130 = some (.iaload, 1) := by decide +kernel
theorem s_176_130 (cl : am_C) (ls : am_Ls) (i : Int) (k : Nat) (st : List am_V) (N : Nat) (I : Nat → Int → Int) (L : Nat → Int → Int64) : am_go0 cl 176 130 ls (.inl i :: .inr (.inr (some k)) :: st) (am_GS N, am_GR, I, L) = if am_inb (am_GS N) k 0 i = true then am_go0 cl 176 131 ls (.inl (I k i) :: st) (am_GS N, am_GR, I, L) else none := am_rA am_m176 d_176_130 (by decide) rfl k ls st i _ _ I L
theorem d_176_131 : am_code 176 131 = some (.invokevirtual 259, 3) := by decide +kernel
theorem s_176_131 (cl : am_C) (ls : am_Ls) (x0 : Int) (x1 : Int) (N : Nat) (I : Nat → Int → Int) (L : Nat → Int → Int64) : am_go0 cl 176 131 ls [.inl x1, .inl x0, .inr (.inr (some 53))] (am_GS N, am_GR, I, L) = am_bd (cl 168 [.inr (.inr (some 53)), .inl x0, .inl x1] (am_GS N, am_GR, I, L)) (fun v h2 => am_go0 cl 176 134 ls (v.toList ++ []) h2) := am_rV am_m176 d_176_131 am_k9259 rfl am_m168 (gs_53 N) (by decide) (Nat.le_of_ble_eq_true rfl) rfl ls
theorem d_176_134 : am_code 176 134 = some (.return_, 1) := by decide +kernel
theorem s_176_134 (cl : am_C) (ls : am_Ls) (h : am_H) : am_go0 cl 176 134 ls [] h = some (none, h) := am_rE am_m176 d_176_134 rfl
theorem e_176 (d : Nat) (t : Nat) (p0 : Int) (h : am_H) : am_call (d + 1) 176 [.inr (.inr (some t)), .inl p0] h = am_go0 (am_call d) 176 0 [some (.inr (.inr (some t))), some (.inl p0), none, none, none, none] [] h := am_callE am_m176 (Nat.le_of_ble_eq_true rfl) rfl
theorem d_177_0 : am_code 177 0 = some (.iconst 0, 1) := by decide +kernel
theorem s_177_0 (cl : am_C) (ls : am_Ls) (st : List am_V) (h : am_H) : am_go0 cl 177 0 ls st h = am_go0 cl 177 1 ls (.inl 0 :: st) h := am_rK am_m177 d_177_0 (by decide) rfl _ _ _
theorem d_177_1 : am_code 177 1 = some (.istore 4, 2) := by decide +kernel
theorem s_177_1 (cl : am_C) (a0 a1 a2 a3 a4 a5 : Option am_V) (x : Int) (st : List am_V) (h : am_H) : am_go0 cl 177 1 [a0, a1, a2, a3, a4, a5] (.inl x :: st) h = am_go0 cl 177 3 [a0, a1, a2, am_c1 a3, some (.inl x), a5] st h := am_r am_m177 d_177_1 rfl
theorem d_177_3 : am_code 177 3 = some (.iload 4, 2) := by decide +kernel
theorem s_177_3 (cl : am_C) (a0 a1 a2 a3 a5 : Option am_V) (x : Int) (st : List am_V) (h : am_H) : am_go0 cl 177 3 [a0, a1, a2, a3, some (.inl x), a5] st h = am_go0 cl 177 5 [a0, a1, a2, a3, some (.inl x), a5] (.inl x :: st) h := am_r am_m177 d_177_3 rfl
theorem d_177_5 : am_code 177 5 = some (.bipush 80, 2) := by decide +kernel
theorem s_177_5 (cl : am_C) (ls : am_Ls) (st : List am_V) (h : am_H) : am_go0 cl 177 5 ls st h = am_go0 cl 177 7 ls (.inl 80 :: st) h := am_rB am_m177 d_177_5 (by decide) rfl _ _ _
theorem d_177_7 : am_code 177 7 = some (.if_icmp .ge 17, 3) := by decide +kernel
theorem s_177_7 (cl : am_C) (ls : am_Ls) (x y : Int) (st : List am_V) (h : am_H) : am_go0 cl 177 7 ls (.inl y :: .inl x :: st) h = if x < y then am_go0 cl 177 10 ls st h else am_go0 cl 177 24 ls st h := (am_rJ0 am_m177 d_177_7 (by decide) rfl x y ls st h).trans (am_ifF ((am_cmp_ge x y).trans Int.not_lt.symm) _ _)
theorem d_177_10 : am_code 177 10 = some (.aload_n 0, 1) := by decide +kernel
theorem s_177_10 (cl : am_C) (a1 a2 a3 a4 a5 : Option am_V) (x : Nat) (st : List am_V) (h : am_H) : am_go0 cl 177 10 [some (.inr (.inr (some x))), a1, a2, a3, a4, a5] st h = am_go0 cl 177 11 [some (.inr (.inr (some x))), a1, a2, a3, a4, a5] (.inr (.inr (some x)) :: st) h := am_r am_m177 d_177_10 rfl
theorem d_177_11 : am_code 177 11 = some (.getfield 29, 3) := by decide +kernel
theorem s_177_11 (cl : am_C) (ls : am_Ls) (st : List am_V) (N : Nat) (I : Nat → Int → Int) (L : Nat → Int → Int64) : am_go0 cl 177 11 ls (.inr (.inr (some 53)) :: st) (am_GS N, am_GR, I, L) = am_go0 cl 177 14 ls (.inr (.inr (some 59)) :: st) (am_GS N, am_GR, I, L) := am_rG2 am_m177 d_177_11 am_f9029 rfl (gs_53 N) (by decide) gr_53_7 rfl
theorem d_177_14 : am_code 177 14 = some (.iload 4, 2) := by decide +kernel
theorem s_177_14 (cl : am_C) (a0 a1 a2 a3 a5 : Option am_V) (x : Int) (st : List am_V) (h : am_H) : am_go0 cl 177 14 [a0, a1, a2, a3, some (.inl x), a5] st h = am_go0 cl 177 16 [a0, a1, a2, a3, some (.inl x), a5] (.inl x :: st) h := am_r am_m177 d_177_14 rfl
theorem d_177_16 : am_code 177 16 = some (.iconst (-1), 1) := by decide +kernel
theorem s_177_16 (cl : am_C) (ls : am_Ls) (st : List am_V) (h : am_H) : am_go0 cl 177 16 ls st h = am_go0 cl 177 17 ls (.inl (-1) :: st) h := am_rK am_m177 d_177_16 (by decide) rfl _ _ _
theorem d_177_17 : am_code 177 17 = some (.iastore, 1) := by decide +kernel
theorem s_177_17 (cl : am_C) (ls : am_Ls) (i : Int) (v : Int) (k : Nat) (st : List am_V) (N : Nat) (I : Nat → Int → Int) (L : Nat → Int → Int64) : am_go0 cl 177 17 ls (.inl v :: .inl i :: .inr (.inr (some k)) :: st) (am_GS N, am_GR, I, L) = if am_inb (am_GS N) k 0 i = true then am_go0 cl 177 18 ls st (am_GS N, am_GR, am_uI I k i v, L) else none := am_rS am_m177 d_177_17 rfl k ls st i v _ _ I L
theorem d_177_18 : am_code 177 18 = some (.iinc 4 1, 3) := by decide +kernel
theorem s_177_18 (cl : am_C) (a0 a1 a2 a3 a5 : Option am_V) (x : Int) (st : List am_V) (h : am_H) : am_go0 cl 177 18 [a0, a1, a2, a3, some (.inl x), a5] st h = am_go0 cl 177 21 [a0, a1, a2, am_c1 a3, some (.inl (am_wr (x + 1))), a5] st h := am_r am_m177 d_177_18 rfl
theorem d_177_21 : am_code 177 21 = some (.goto (-18), 3) := by decide +kernel
theorem s_177_21 (cl : am_C) (ls : am_Ls) (st : List am_V) (h : am_H) : am_go0 cl 177 21 ls st h = am_go0 cl 177 3 ls st h := am_rGo am_m177 d_177_21 (by decide) _ _ _
theorem d_177_24 : am_code 177 24 = some (.aload_n 0, 1) := by decide +kernel
theorem s_177_24 (cl : am_C) (a1 a2 a3 a4 a5 : Option am_V) (x : Nat) (st : List am_V) (h : am_H) : am_go0 cl 177 24 [some (.inr (.inr (some x))), a1, a2, a3, a4, a5] st h = am_go0 cl 177 25 [some (.inr (.inr (some x))), a1, a2, a3, a4, a5] (.inr (.inr (some x)) :: st) h := am_r am_m177 d_177_24 rfl
theorem d_177_25 : am_code 177 25 = some (.getfield 29, 3) := by decide +kernel
theorem s_177_25 (cl : am_C) (ls : am_Ls) (st : List am_V) (N : Nat) (I : Nat → Int → Int) (L : Nat → Int → Int64) : am_go0 cl 177 25 ls (.inr (.inr (some 53)) :: st) (am_GS N, am_GR, I, L) = am_go0 cl 177 28 ls (.inr (.inr (some 59)) :: st) (am_GS N, am_GR, I, L) := am_rG2 am_m177 d_177_25 am_f9029 rfl (gs_53 N) (by decide) gr_53_7 rfl
theorem d_177_28 : am_code 177 28 = some (.iconst 0, 1) := by decide +kernel
theorem s_177_28 (cl : am_C) (ls : am_Ls) (st : List am_V) (h : am_H) : am_go0 cl 177 28 ls st h = am_go0 cl 177 29 ls (.inl 0 :: st) h := am_rK am_m177 d_177_28 (by decide) rfl _ _ _
theorem d_177_29 : am_code 177 29 = some (.iload_n 2, 1) := by decide +kernel
theorem s_177_29 (cl : am_C) (a0 a1 a3 a4 a5 : Option am_V) (x : Int) (st : List am_V) (h : am_H) : am_go0 cl 177 29 [a0, a1, some (.inl x), a3, a4, a5] st h = am_go0 cl 177 30 [a0, a1, some (.inl x), a3, a4, a5] (.inl x :: st) h := am_r am_m177 d_177_29 rfl
theorem d_177_30 : am_code 177 30 = some (.iastore, 1) := by decide +kernel
theorem s_177_30 (cl : am_C) (ls : am_Ls) (i : Int) (v : Int) (k : Nat) (st : List am_V) (N : Nat) (I : Nat → Int → Int) (L : Nat → Int → Int64) : am_go0 cl 177 30 ls (.inl v :: .inl i :: .inr (.inr (some k)) :: st) (am_GS N, am_GR, I, L) = if am_inb (am_GS N) k 0 i = true then am_go0 cl 177 31 ls st (am_GS N, am_GR, am_uI I k i v, L) else none := am_rS am_m177 d_177_30 rfl k ls st i v _ _ I L
theorem d_177_31 : am_code 177 31 = some (.aload_n 0, 1) := by decide +kernel
theorem s_177_31 (cl : am_C) (a1 a2 a3 a4 a5 : Option am_V) (x : Nat) (st : List am_V) (h : am_H) : am_go0 cl 177 31 [some (.inr (.inr (some x))), a1, a2, a3, a4, a5] st h = am_go0 cl 177 32 [some (.inr (.inr (some x))), a1, a2, a3, a4, a5] (.inr (.inr (some x)) :: st) h := am_r am_m177 d_177_31 rfl
theorem d_177_32 : am_code 177 32 = some (.getfield 29, 3) := by decide +kernel
theorem s_177_32 (cl : am_C) (ls : am_Ls) (st : List am_V) (N : Nat) (I : Nat → Int → Int) (L : Nat → Int → Int64) : am_go0 cl 177 32 ls (.inr (.inr (some 53)) :: st) (am_GS N, am_GR, I, L) = am_go0 cl 177 35 ls (.inr (.inr (some 59)) :: st) (am_GS N, am_GR, I, L) := am_rG2 am_m177 d_177_32 am_f9029 rfl (gs_53 N) (by decide) gr_53_7 rfl
theorem d_177_35 : am_code 177 35 = some (.iconst 1, 1) := by decide +kernel
theorem s_177_35 (cl : am_C) (ls : am_Ls) (st : List am_V) (h : am_H) : am_go0 cl 177 35 ls st h = am_go0 cl 177 36 ls (.inl 1 :: st) h := am_rK am_m177 d_177_35 (by decide) rfl _ _ _
theorem d_177_36 : am_code 177 36 = some (.iload_n 3, 1) := by decide +kernel
theorem s_177_36 (cl : am_C) (a0 a1 a2 a4 a5 : Option am_V) (x : Int) (st : List am_V) (h : am_H) : am_go0 cl 177 36 [a0, a1, a2, some (.inl x), a4, a5] st h = am_go0 cl 177 37 [a0, a1, a2, some (.inl x), a4, a5] (.inl x :: st) h := am_r am_m177 d_177_36 rfl
theorem d_177_37 : am_code 177 37 = some (.iastore, 1) := by decide +kernel
theorem s_177_37 (cl : am_C) (ls : am_Ls) (i : Int) (v : Int) (k : Nat) (st : List am_V) (N : Nat) (I : Nat → Int → Int) (L : Nat → Int → Int64) : am_go0 cl 177 37 ls (.inl v :: .inl i :: .inr (.inr (some k)) :: st) (am_GS N, am_GR, I, L) = if am_inb (am_GS N) k 0 i = true then am_go0 cl 177 38 ls st (am_GS N, am_GR, am_uI I k i v, L) else none := am_rS am_m177 d_177_37 rfl k ls st i v _ _ I L
theorem d_177_38 : am_code 177 38 = some (.iconst 1, 1) := by decide +kernel
theorem s_177_38 (cl : am_C) (ls : am_Ls) (st : List am_V) (h : am_H) : am_go0 cl 177 38 ls st h = am_go0 cl 177 39 ls (.inl 1 :: st) h := am_rK am_m177 d_177_38 (by decide) rfl _ _ _
theorem d_177_39 : am_code 177 39 = some (.istore 4, 2) := by decide +kernel
theorem s_177_39 (cl : am_C) (a0 a1 a2 a3 a4 a5 : Option am_V) (x : Int) (st : List am_V) (h : am_H) : am_go0 cl 177 39 [a0, a1, a2, a3, a4, a5] (.inl x :: st) h = am_go0 cl 177 41 [a0, a1, a2, am_c1 a3, some (.inl x), a5] st h := am_r am_m177 d_177_39 rfl
theorem d_177_41 : am_code 177 41 = some (.aload_n 0, 1) := by decide +kernel
theorem s_177_41 (cl : am_C) (a1 a2 a3 a4 a5 : Option am_V) (x : Nat) (st : List am_V) (h : am_H) : am_go0 cl 177 41 [some (.inr (.inr (some x))), a1, a2, a3, a4, a5] st h = am_go0 cl 177 42 [some (.inr (.inr (some x))), a1, a2, a3, a4, a5] (.inr (.inr (some x)) :: st) h := am_r am_m177 d_177_41 rfl
theorem d_177_42 : am_code 177 42 = some (.getfield 32, 3) := by decide +kernel
theorem s_177_42 (cl : am_C) (ls : am_Ls) (st : List am_V) (N : Nat) (I : Nat → Int → Int) (L : Nat → Int → Int64) : am_go0 cl 177 42 ls (.inr (.inr (some 53)) :: st) (am_GS N, am_GR, I, L) = am_go0 cl 177 45 ls (.inr (.inr (some 60)) :: st) (am_GS N, am_GR, I, L) := am_rG2 am_m177 d_177_42 am_f9032 rfl (gs_53 N) (by decide) gr_53_8 rfl
theorem d_177_45 : am_code 177 45 = some (.iconst 0, 1) := by decide +kernel
theorem s_177_45 (cl : am_C) (ls : am_Ls) (st : List am_V) (h : am_H) : am_go0 cl 177 45 ls st h = am_go0 cl 177 46 ls (.inl 0 :: st) h := am_rK am_m177 d_177_45 (by decide) rfl _ _ _
theorem d_177_46 : am_code 177 46 = some (.iload_n 1, 1) := by decide +kernel
theorem s_177_46 (cl : am_C) (a0 a2 a3 a4 a5 : Option am_V) (x : Int) (st : List am_V) (h : am_H) : am_go0 cl 177 46 [a0, some (.inl x), a2, a3, a4, a5] st h = am_go0 cl 177 47 [a0, some (.inl x), a2, a3, a4, a5] (.inl x :: st) h := am_r am_m177 d_177_46 rfl
theorem d_177_47 : am_code 177 47 = some (.iastore, 1) := by decide +kernel
theorem s_177_47 (cl : am_C) (ls : am_Ls) (i : Int) (v : Int) (k : Nat) (st : List am_V) (N : Nat) (I : Nat → Int → Int) (L : Nat → Int → Int64) : am_go0 cl 177 47 ls (.inl v :: .inl i :: .inr (.inr (some k)) :: st) (am_GS N, am_GR, I, L) = if am_inb (am_GS N) k 0 i = true then am_go0 cl 177 48 ls st (am_GS N, am_GR, am_uI I k i v, L) else none := am_rS am_m177 d_177_47 rfl k ls st i v _ _ I L
theorem d_177_48 : am_code 177 48 = some (.iload 4, 2) := by decide +kernel
theorem s_177_48 (cl : am_C) (a0 a1 a2 a3 a5 : Option am_V) (x : Int) (st : List am_V) (h : am_H) : am_go0 cl 177 48 [a0, a1, a2, a3, some (.inl x), a5] st h = am_go0 cl 177 50 [a0, a1, a2, a3, some (.inl x), a5] (.inl x :: st) h := am_r am_m177 d_177_48 rfl
theorem d_177_50 : am_code 177 50 = some (.ifCond .le 247, 3) := by decide +kernel
theorem s_177_50 (cl : am_C) (ls : am_Ls) (x : Int) (st : List am_V) (h : am_H) : am_go0 cl 177 50 ls (.inl x :: st) h = if 0 < x then am_go0 cl 177 53 ls st h else am_go0 cl 177 297 ls st h := (am_rJ1 am_m177 d_177_50 (by decide) rfl x ls st h).trans (am_ifF ((am_cmp_le x 0).trans Int.not_lt.symm) _ _)
theorem d_177_53 : am_code 177 53 = some (.aload_n 0, 1) := by decide +kernel
theorem s_177_53 (cl : am_C) (a1 a2 a3 a4 a5 : Option am_V) (x : Nat) (st : List am_V) (h : am_H) : am_go0 cl 177 53 [some (.inr (.inr (some x))), a1, a2, a3, a4, a5] st h = am_go0 cl 177 54 [some (.inr (.inr (some x))), a1, a2, a3, a4, a5] (.inr (.inr (some x)) :: st) h := am_r am_m177 d_177_53 rfl
theorem d_177_54 : am_code 177 54 = some (.getfield 32, 3) := by decide +kernel
theorem s_177_54 (cl : am_C) (ls : am_Ls) (st : List am_V) (N : Nat) (I : Nat → Int → Int) (L : Nat → Int → Int64) : am_go0 cl 177 54 ls (.inr (.inr (some 53)) :: st) (am_GS N, am_GR, I, L) = am_go0 cl 177 57 ls (.inr (.inr (some 60)) :: st) (am_GS N, am_GR, I, L) := am_rG2 am_m177 d_177_54 am_f9032 rfl (gs_53 N) (by decide) gr_53_8 rfl
theorem d_177_57 : am_code 177 57 = some (.iload 4, 2) := by decide +kernel
theorem s_177_57 (cl : am_C) (a0 a1 a2 a3 a5 : Option am_V) (x : Int) (st : List am_V) (h : am_H) : am_go0 cl 177 57 [a0, a1, a2, a3, some (.inl x), a5] st h = am_go0 cl 177 59 [a0, a1, a2, a3, some (.inl x), a5] (.inl x :: st) h := am_r am_m177 d_177_57 rfl
theorem d_177_59 : am_code 177 59 = some (.iconst 1, 1) := by decide +kernel
theorem s_177_59 (cl : am_C) (ls : am_Ls) (st : List am_V) (h : am_H) : am_go0 cl 177 59 ls st h = am_go0 cl 177 60 ls (.inl 1 :: st) h := am_rK am_m177 d_177_59 (by decide) rfl _ _ _
theorem d_177_60 : am_code 177 60 = some (.isub, 1) := by decide +kernel
theorem s_177_60 (cl : am_C) (ls : am_Ls) (x y : Int) (st : List am_V) (h : am_H) : am_go0 cl 177 60 ls (.inl y :: .inl x :: st) h = am_go0 cl 177 61 ls (.inl (am_wr (x - y)) :: st) h := am_r am_m177 d_177_60 rfl
theorem d_177_61 : am_code 177 61 = some (.iaload, 1) := by decide +kernel
theorem s_177_61 (cl : am_C) (ls : am_Ls) (i : Int) (k : Nat) (st : List am_V) (N : Nat) (I : Nat → Int → Int) (L : Nat → Int → Int64) : am_go0 cl 177 61 ls (.inl i :: .inr (.inr (some k)) :: st) (am_GS N, am_GR, I, L) = if am_inb (am_GS N) k 0 i = true then am_go0 cl 177 62 ls (.inl (I k i) :: st) (am_GS N, am_GR, I, L) else none := am_rA am_m177 d_177_61 (by decide) rfl k ls st i _ _ I L
theorem d_177_62 : am_code 177 62 = some (.istore 5, 2) := by decide +kernel
theorem s_177_62 (cl : am_C) (a0 a1 a2 a3 a4 a5 : Option am_V) (x : Int) (st : List am_V) (h : am_H) : am_go0 cl 177 62 [a0, a1, a2, a3, a4, a5] (.inl x :: st) h = am_go0 cl 177 64 [a0, a1, a2, a3, am_c1 a4, some (.inl x)] st h := am_r am_m177 d_177_62 rfl
theorem d_177_64 : am_code 177 64 = some (.iload 5, 2) := by decide +kernel
theorem s_177_64 (cl : am_C) (a0 a1 a2 a3 a4 : Option am_V) (x : Int) (st : List am_V) (h : am_H) : am_go0 cl 177 64 [a0, a1, a2, a3, a4, some (.inl x)] st h = am_go0 cl 177 66 [a0, a1, a2, a3, a4, some (.inl x)] (.inl x :: st) h := am_r am_m177 d_177_64 rfl
theorem d_177_66 : am_code 177 66 = some (.iconst 1, 1) := by decide +kernel
theorem s_177_66 (cl : am_C) (ls : am_Ls) (st : List am_V) (h : am_H) : am_go0 cl 177 66 ls st h = am_go0 cl 177 67 ls (.inl 1 :: st) h := am_rK am_m177 d_177_66 (by decide) rfl _ _ _
theorem d_177_67 : am_code 177 67 = some (.if_icmp .le 22, 3) := by decide +kernel
theorem s_177_67 (cl : am_C) (ls : am_Ls) (x y : Int) (st : List am_V) (h : am_H) : am_go0 cl 177 67 ls (.inl y :: .inl x :: st) h = if y < x then am_go0 cl 177 70 ls st h else am_go0 cl 177 89 ls st h := (am_rJ0 am_m177 d_177_67 (by decide) rfl x y ls st h).trans (am_ifF ((am_cmp_le x y).trans Int.not_lt.symm) _ _)
theorem d_177_70 : am_code 177 70 = some (.aload_n 0, 1) := by decide +kernel
theorem s_177_70 (cl : am_C) (a1 a2 a3 a4 a5 : Option am_V) (x : Nat) (st : List am_V) (h : am_H) : am_go0 cl 177 70 [some (.inr (.inr (some x))), a1, a2, a3, a4, a5] st h = am_go0 cl 177 71 [some (.inr (.inr (some x))), a1, a2, a3, a4, a5] (.inr (.inr (some x)) :: st) h := am_r am_m177 d_177_70 rfl
theorem d_177_71 : am_code 177 71 = some (.getfield 26, 3) := by decide +kernel
theorem s_177_71 (cl : am_C) (ls : am_Ls) (st : List am_V) (N : Nat) (I : Nat → Int → Int) (L : Nat → Int → Int64) : am_go0 cl 177 71 ls (.inr (.inr (some 53)) :: st) (am_GS N, am_GR, I, L) = am_go0 cl 177 74 ls (.inr (.inr (some 58)) :: st) (am_GS N, am_GR, I, L) := am_rG2 am_m177 d_177_71 am_f9026 rfl (gs_53 N) (by decide) gr_53_6 rfl
theorem d_177_74 : am_code 177 74 = some (.iload 5, 2) := by decide +kernel
theorem s_177_74 (cl : am_C) (a0 a1 a2 a3 a4 : Option am_V) (x : Int) (st : List am_V) (h : am_H) : am_go0 cl 177 74 [a0, a1, a2, a3, a4, some (.inl x)] st h = am_go0 cl 177 76 [a0, a1, a2, a3, a4, some (.inl x)] (.inl x :: st) h := am_r am_m177 d_177_74 rfl
theorem d_177_76 : am_code 177 76 = some (.iaload, 1) := by decide +kernel
theorem s_177_76 (cl : am_C) (ls : am_Ls) (i : Int) (k : Nat) (st : List am_V) (N : Nat) (I : Nat → Int → Int) (L : Nat → Int → Int64) : am_go0 cl 177 76 ls (.inl i :: .inr (.inr (some k)) :: st) (am_GS N, am_GR, I, L) = if am_inb (am_GS N) k 0 i = true then am_go0 cl 177 77 ls (.inl (I k i) :: st) (am_GS N, am_GR, I, L) else none := am_rA am_m177 d_177_76 (by decide) rfl k ls st i _ _ I L
theorem d_177_77 : am_code 177 77 = some (.ifCond .ne 12, 3) := by decide +kernel
theorem s_177_77 (cl : am_C) (ls : am_Ls) (x : Int) (st : List am_V) (h : am_H) : am_go0 cl 177 77 ls (.inl x :: st) h = if x = 0 then am_go0 cl 177 80 ls st h else am_go0 cl 177 89 ls st h := (am_rJ1 am_m177 d_177_77 (by decide) rfl x ls st h).trans (am_ifF ((am_cmp_ne x 0).trans Iff.rfl) _ _)
theorem d_177_80 : am_code 177 80 = some (.aload_n 0, 1) := by decide +kernel
theorem s_177_80 (cl : am_C) (a1 a2 a3 a4 a5 : Option am_V) (x : Nat) (st : List am_V) (h : am_H) : am_go0 cl 177 80 [some (.inr (.inr (some x))), a1, a2, a3, a4, a5] st h = am_go0 cl 177 81 [some (.inr (.inr (some x))), a1, a2, a3, a4, a5] (.inr (.inr (some x)) :: st) h := am_r am_m177 d_177_80 rfl
theorem d_177_81 : am_code 177 81 = some (.getfield 29, 3) := by decide +kernel
theorem s_177_81 (cl : am_C) (ls : am_Ls) (st : List am_V) (N : Nat) (I : Nat → Int → Int) (L : Nat → Int → Int64) : am_go0 cl 177 81 ls (.inr (.inr (some 53)) :: st) (am_GS N, am_GR, I, L) = am_go0 cl 177 84 ls (.inr (.inr (some 59)) :: st) (am_GS N, am_GR, I, L) := am_rG2 am_m177 d_177_81 am_f9029 rfl (gs_53 N) (by decide) gr_53_7 rfl
theorem d_177_84 : am_code 177 84 = some (.iload 5, 2) := by decide +kernel
theorem s_177_84 (cl : am_C) (a0 a1 a2 a3 a4 : Option am_V) (x : Int) (st : List am_V) (h : am_H) : am_go0 cl 177 84 [a0, a1, a2, a3, a4, some (.inl x)] st h = am_go0 cl 177 86 [a0, a1, a2, a3, a4, some (.inl x)] (.inl x :: st) h := am_r am_m177 d_177_84 rfl
theorem d_177_86 : am_code 177 86 = some (.iload 5, 2) := by decide +kernel
theorem s_177_86 (cl : am_C) (a0 a1 a2 a3 a4 : Option am_V) (x : Int) (st : List am_V) (h : am_H) : am_go0 cl 177 86 [a0, a1, a2, a3, a4, some (.inl x)] st h = am_go0 cl 177 88 [a0, a1, a2, a3, a4, some (.inl x)] (.inl x :: st) h := am_r am_m177 d_177_86 rfl
theorem d_177_88 : am_code 177 88 = some (.iastore, 1) := by decide +kernel
theorem s_177_88 (cl : am_C) (ls : am_Ls) (i : Int) (v : Int) (k : Nat) (st : List am_V) (N : Nat) (I : Nat → Int → Int) (L : Nat → Int → Int64) : am_go0 cl 177 88 ls (.inl v :: .inl i :: .inr (.inr (some k)) :: st) (am_GS N, am_GR, I, L) = if am_inb (am_GS N) k 0 i = true then am_go0 cl 177 89 ls st (am_GS N, am_GR, am_uI I k i v, L) else none := am_rS am_m177 d_177_88 rfl k ls st i v _ _ I L
theorem d_177_89 : am_code 177 89 = some (.iload 5, 2) := by decide +kernel
theorem s_177_89 (cl : am_C) (a0 a1 a2 a3 a4 : Option am_V) (x : Int) (st : List am_V) (h : am_H) : am_go0 cl 177 89 [a0, a1, a2, a3, a4, some (.inl x)] st h = am_go0 cl 177 91 [a0, a1, a2, a3, a4, some (.inl x)] (.inl x :: st) h := am_r am_m177 d_177_89 rfl
theorem d_177_91 : am_code 177 91 = some (.iconst 2, 1) := by decide +kernel
theorem s_177_91 (cl : am_C) (ls : am_Ls) (st : List am_V) (h : am_H) : am_go0 cl 177 91 ls st h = am_go0 cl 177 92 ls (.inl 2 :: st) h := am_rK am_m177 d_177_91 (by decide) rfl _ _ _
theorem d_177_92 : am_code 177 92 = some (.if_icmp .lt 14, 3) := by decide +kernel
theorem s_177_92 (cl : am_C) (ls : am_Ls) (x y : Int) (st : List am_V) (h : am_H) : am_go0 cl 177 92 ls (.inl y :: .inl x :: st) h = if x < y then am_go0 cl 177 106 ls st h else am_go0 cl 177 95 ls st h := (am_rJ0 am_m177 d_177_92 (by decide) rfl x y ls st h).trans (am_ifT (am_cmp_lt x y) _ _)
theorem d_177_95 : am_code 177 95 = some (.aload_n 0, 1) := by decide +kernel
theorem s_177_95 (cl : am_C) (a1 a2 a3 a4 a5 : Option am_V) (x : Nat) (st : List am_V) (h : am_H) : am_go0 cl 177 95 [some (.inr (.inr (some x))), a1, a2, a3, a4, a5] st h = am_go0 cl 177 96 [some (.inr (.inr (some x))), a1, a2, a3, a4, a5] (.inr (.inr (some x)) :: st) h := am_r am_m177 d_177_95 rfl
theorem d_177_96 : am_code 177 96 = some (.getfield 29, 3) := by decide +kernel
theorem s_177_96 (cl : am_C) (ls : am_Ls) (st : List am_V) (N : Nat) (I : Nat → Int → Int) (L : Nat → Int → Int64) : am_go0 cl 177 96 ls (.inr (.inr (some 53)) :: st) (am_GS N, am_GR, I, L) = am_go0 cl 177 99 ls (.inr (.inr (some 59)) :: st) (am_GS N, am_GR, I, L) := am_rG2 am_m177 d_177_96 am_f9029 rfl (gs_53 N) (by decide) gr_53_7 rfl
theorem d_177_99 : am_code 177 99 = some (.iload 5, 2) := by decide +kernel
theorem s_177_99 (cl : am_C) (a0 a1 a2 a3 a4 : Option am_V) (x : Int) (st : List am_V) (h : am_H) : am_go0 cl 177 99 [a0, a1, a2, a3, a4, some (.inl x)] st h = am_go0 cl 177 101 [a0, a1, a2, a3, a4, some (.inl x)] (.inl x :: st) h := am_r am_m177 d_177_99 rfl
theorem d_177_101 : am_code 177 101 = some (.iaload, 1) := by decide +kernel
theorem s_177_101 (cl : am_C) (ls : am_Ls) (i : Int) (k : Nat) (st : List am_V) (N : Nat) (I : Nat → Int → Int) (L : Nat → Int → Int64) : am_go0 cl 177 101 ls (.inl i :: .inr (.inr (some k)) :: st) (am_GS N, am_GR, I, L) = if am_inb (am_GS N) k 0 i = true then am_go0 cl 177 102 ls (.inl (I k i) :: st) (am_GS N, am_GR, I, L) else none := am_rA am_m177 d_177_101 (by decide) rfl k ls st i _ _ I L
theorem d_177_102 : am_code 177 102 = some (.iconst (-1), 1) := by decide +kernel
theorem s_177_102 (cl : am_C) (ls : am_Ls) (st : List am_V) (h : am_H) : am_go0 cl 177 102 ls st h = am_go0 cl 177 103 ls (.inl (-1) :: st) h := am_rK am_m177 d_177_102 (by decide) rfl _ _ _
theorem d_177_103 : am_code 177 103 = some (.if_icmp .eq 9, 3) := by decide +kernel
theorem s_177_103 (cl : am_C) (ls : am_Ls) (x y : Int) (st : List am_V) (h : am_H) : am_go0 cl 177 103 ls (.inl y :: .inl x :: st) h = if x = y then am_go0 cl 177 112 ls st h else am_go0 cl 177 106 ls st h := (am_rJ0 am_m177 d_177_103 (by decide) rfl x y ls st h).trans (am_ifT (am_cmp_eq x y) _ _)
theorem d_177_106 : am_code 177 106 = some (.iinc 4 (-1), 3) := by decide +kernel
theorem s_177_106 (cl : am_C) (a0 a1 a2 a3 a5 : Option am_V) (x : Int) (st : List am_V) (h : am_H) : am_go0 cl 177 106 [a0, a1, a2, a3, some (.inl x), a5] st h = am_go0 cl 177 109 [a0, a1, a2, am_c1 a3, some (.inl (am_wr (x + (-1)))), a5] st h := am_r am_m177 d_177_106 rfl
theorem d_177_109 : am_code 177 109 = some (.goto 185, 3) := by decide +kernel
theorem s_177_109 (cl : am_C) (ls : am_Ls) (st : List am_V) (h : am_H) : am_go0 cl 177 109 ls st h = am_go0 cl 177 294 ls st h := am_rGo am_m177 d_177_109 (by decide) _ _ _
theorem d_177_112 : am_code 177 112 = some (.aload_n 0, 1) := by decide +kernel
theorem s_177_112 (cl : am_C) (a1 a2 a3 a4 a5 : Option am_V) (x : Nat) (st : List am_V) (h : am_H) : am_go0 cl 177 112 [some (.inr (.inr (some x))), a1, a2, a3, a4, a5] st h = am_go0 cl 177 113 [some (.inr (.inr (some x))), a1, a2, a3, a4, a5] (.inr (.inr (some x)) :: st) h := am_r am_m177 d_177_112 rfl
theorem d_177_113 : am_code 177 113 = some (.getfield 20, 3) := by decide +kernel
theorem s_177_113 (cl : am_C) (ls : am_Ls) (st : List am_V) (N : Nat) (I : Nat → Int → Int) (L : Nat → Int → Int64) : am_go0 cl 177 113 ls (.inr (.inr (some 53)) :: st) (am_GS N, am_GR, I, L) = am_go0 cl 177 116 ls (.inr (.inr (some 56)) :: st) (am_GS N, am_GR, I, L) := am_rG2 am_m177 d_177_113 am_f9020 rfl (gs_53 N) (by decide) gr_53_4 rfl
theorem d_177_116 : am_code 177 116 = some (.iload 5, 2) := by decide +kernel
theorem s_177_116 (cl : am_C) (a0 a1 a2 a3 a4 : Option am_V) (x : Int) (st : List am_V) (h : am_H) : am_go0 cl 177 116 [a0, a1, a2, a3, a4, some (.inl x)] st h = am_go0 cl 177 118 [a0, a1, a2, a3, a4, some (.inl x)] (.inl x :: st) h := am_r am_m177 d_177_116 rfl
theorem d_177_118 : am_code 177 118 = some (.iaload, 1) := by decide +kernel
theorem s_177_118 (cl : am_C) (ls : am_Ls) (i : Int) (k : Nat) (st : List am_V) (N : Nat) (I : Nat → Int → Int) (L : Nat → Int → Int64) : am_go0 cl 177 118 ls (.inl i :: .inr (.inr (some k)) :: st) (am_GS N, am_GR, I, L) = if am_inb (am_GS N) k 0 i = true then am_go0 cl 177 119 ls (.inl (I k i) :: st) (am_GS N, am_GR, I, L) else none := am_rA am_m177 d_177_118 (by decide) rfl k ls st i _ _ I L
theorem d_177_119 : am_code 177 119 = some (.iconst 1, 1) := by decide +kernel
theorem s_177_119 (cl : am_C) (ls : am_Ls) (st : List am_V) (h : am_H) : am_go0 cl 177 119 ls st h = am_go0 cl 177 120 ls (.inl 1 :: st) h := am_rK am_m177 d_177_119 (by decide) rfl _ _ _
theorem d_177_120 : am_code 177 120 = some (.if_icmp .le 39, 3) := by decide +kernel
theorem s_177_120 (cl : am_C) (ls : am_Ls) (x y : Int) (st : List am_V) (h : am_H) : am_go0 cl 177 120 ls (.inl y :: .inl x :: st) h = if y < x then am_go0 cl 177 123 ls st h else am_go0 cl 177 159 ls st h := (am_rJ0 am_m177 d_177_120 (by decide) rfl x y ls st h).trans (am_ifF ((am_cmp_le x y).trans Int.not_lt.symm) _ _)
theorem d_177_123 : am_code 177 123 = some (.aload_n 0, 1) := by decide +kernel
theorem s_177_123 (cl : am_C) (a1 a2 a3 a4 a5 : Option am_V) (x : Nat) (st : List am_V) (h : am_H) : am_go0 cl 177 123 [some (.inr (.inr (some x))), a1, a2, a3, a4, a5] st h = am_go0 cl 177 124 [some (.inr (.inr (some x))), a1, a2, a3, a4, a5] (.inr (.inr (some x)) :: st) h := am_r am_m177 d_177_123 rfl
theorem d_177_124 : am_code 177 124 = some (.getfield 29, 3) := by decide +kernel
theorem s_177_124 (cl : am_C) (ls : am_Ls) (st : List am_V) (N : Nat) (I : Nat → Int → Int) (L : Nat → Int → Int64) : am_go0 cl 177 124 ls (.inr (.inr (some 53)) :: st) (am_GS N, am_GR, I, L) = am_go0 cl 177 127 ls (.inr (.inr (some 59)) :: st) (am_GS N, am_GR, I, L) := am_rG2 am_m177 d_177_124 am_f9029 rfl (gs_53 N) (by decide) gr_53_7 rfl
theorem d_177_127 : am_code 177 127 = some (.aload_n 0, 1) := by decide +kernel
theorem s_177_127 (cl : am_C) (a1 a2 a3 a4 a5 : Option am_V) (x : Nat) (st : List am_V) (h : am_H) : am_go0 cl 177 127 [some (.inr (.inr (some x))), a1, a2, a3, a4, a5] st h = am_go0 cl 177 128 [some (.inr (.inr (some x))), a1, a2, a3, a4, a5] (.inr (.inr (some x)) :: st) h := am_r am_m177 d_177_127 rfl
theorem d_177_128 : am_code 177 128 = some (.getfield 20, 3) := by decide +kernel
theorem s_177_128 (cl : am_C) (ls : am_Ls) (st : List am_V) (N : Nat) (I : Nat → Int → Int) (L : Nat → Int → Int64) : am_go0 cl 177 128 ls (.inr (.inr (some 53)) :: st) (am_GS N, am_GR, I, L) = am_go0 cl 177 131 ls (.inr (.inr (some 56)) :: st) (am_GS N, am_GR, I, L) := am_rG2 am_m177 d_177_128 am_f9020 rfl (gs_53 N) (by decide) gr_53_4 rfl
theorem d_177_131 : am_code 177 131 = some (.iload 5, 2) := by decide +kernel
theorem s_177_131 (cl : am_C) (a0 a1 a2 a3 a4 : Option am_V) (x : Int) (st : List am_V) (h : am_H) : am_go0 cl 177 131 [a0, a1, a2, a3, a4, some (.inl x)] st h = am_go0 cl 177 133 [a0, a1, a2, a3, a4, some (.inl x)] (.inl x :: st) h := am_r am_m177 d_177_131 rfl
theorem d_177_133 : am_code 177 133 = some (.iaload, 1) := by decide +kernel
theorem s_177_133 (cl : am_C) (ls : am_Ls) (i : Int) (k : Nat) (st : List am_V) (N : Nat) (I : Nat → Int → Int) (L : Nat → Int → Int64) : am_go0 cl 177 133 ls (.inl i :: .inr (.inr (some k)) :: st) (am_GS N, am_GR, I, L) = if am_inb (am_GS N) k 0 i = true then am_go0 cl 177 134 ls (.inl (I k i) :: st) (am_GS N, am_GR, I, L) else none := am_rA am_m177 d_177_133 (by decide) rfl k ls st i _ _ I L
theorem d_177_134 : am_code 177 134 = some (.iaload, 1) := by decide +kernel
theorem s_177_134 (cl : am_C) (ls : am_Ls) (i : Int) (k : Nat) (st : List am_V) (N : Nat) (I : Nat → Int → Int) (L : Nat → Int → Int64) : am_go0 cl 177 134 ls (.inl i :: .inr (.inr (some k)) :: st) (am_GS N, am_GR, I, L) = if am_inb (am_GS N) k 0 i = true then am_go0 cl 177 135 ls (.inl (I k i) :: st) (am_GS N, am_GR, I, L) else none := am_rA am_m177 d_177_134 (by decide) rfl k ls st i _ _ I L
theorem d_177_135 : am_code 177 135 = some (.iconst (-1), 1) := by decide +kernel
theorem s_177_135 (cl : am_C) (ls : am_Ls) (st : List am_V) (h : am_H) : am_go0 cl 177 135 ls st h = am_go0 cl 177 136 ls (.inl (-1) :: st) h := am_rK am_m177 d_177_135 (by decide) rfl _ _ _
theorem d_177_136 : am_code 177 136 = some (.if_icmp .ne 23, 3) := by decide +kernel
theorem s_177_136 (cl : am_C) (ls : am_Ls) (x y : Int) (st : List am_V) (h : am_H) : am_go0 cl 177 136 ls (.inl y :: .inl x :: st) h = if x = y then am_go0 cl 177 139 ls st h else am_go0 cl 177 159 ls st h := (am_rJ0 am_m177 d_177_136 (by decide) rfl x y ls st h).trans (am_ifF ((am_cmp_ne x y).trans Iff.rfl) _ _)
theorem d_177_139 : am_code 177 139 = some (.aload_n 0, 1) := by decide +kernel
theorem s_177_139 (cl : am_C) (a1 a2 a3 a4 a5 : Option am_V) (x : Nat) (st : List am_V) (h : am_H) : am_go0 cl 177 139 [some (.inr (.inr (some x))), a1, a2, a3, a4, a5] st h = am_go0 cl 177 140 [some (.inr (.inr (some x))), a1, a2, a3, a4, a5] (.inr (.inr (some x)) :: st) h := am_r am_m177 d_177_139 rfl
theorem d_177_140 : am_code 177 140 = some (.getfield 32, 3) := by decide +kernel
theorem s_177_140 (cl : am_C) (ls : am_Ls) (st : List am_V) (N : Nat) (I : Nat → Int → Int) (L : Nat → Int → Int64) : am_go0 cl 177 140 ls (.inr (.inr (some 53)) :: st) (am_GS N, am_GR, I, L) = am_go0 cl 177 143 ls (.inr (.inr (some 60)) :: st) (am_GS N, am_GR, I, L) := am_rG2 am_m177 d_177_140 am_f9032 rfl (gs_53 N) (by decide) gr_53_8 rfl
theorem d_177_143 : am_code 177 143 = some (.iload 4, 2) := by decide +kernel
theorem s_177_143 (cl : am_C) (a0 a1 a2 a3 a5 : Option am_V) (x : Int) (st : List am_V) (h : am_H) : am_go0 cl 177 143 [a0, a1, a2, a3, some (.inl x), a5] st h = am_go0 cl 177 145 [a0, a1, a2, a3, some (.inl x), a5] (.inl x :: st) h := am_r am_m177 d_177_143 rfl
theorem d_177_145 : am_code 177 145 = some (.aload_n 0, 1) := by decide +kernel
theorem s_177_145 (cl : am_C) (a1 a2 a3 a4 a5 : Option am_V) (x : Nat) (st : List am_V) (h : am_H) : am_go0 cl 177 145 [some (.inr (.inr (some x))), a1, a2, a3, a4, a5] st h = am_go0 cl 177 146 [some (.inr (.inr (some x))), a1, a2, a3, a4, a5] (.inr (.inr (some x)) :: st) h := am_r am_m177 d_177_145 rfl
theorem d_177_146 : am_code 177 146 = some (.getfield 20, 3) := by decide +kernel
theorem s_177_146 (cl : am_C) (ls : am_Ls) (st : List am_V) (N : Nat) (I : Nat → Int → Int) (L : Nat → Int → Int64) : am_go0 cl 177 146 ls (.inr (.inr (some 53)) :: st) (am_GS N, am_GR, I, L) = am_go0 cl 177 149 ls (.inr (.inr (some 56)) :: st) (am_GS N, am_GR, I, L) := am_rG2 am_m177 d_177_146 am_f9020 rfl (gs_53 N) (by decide) gr_53_4 rfl
theorem d_177_149 : am_code 177 149 = some (.iload 5, 2) := by decide +kernel
theorem s_177_149 (cl : am_C) (a0 a1 a2 a3 a4 : Option am_V) (x : Int) (st : List am_V) (h : am_H) : am_go0 cl 177 149 [a0, a1, a2, a3, a4, some (.inl x)] st h = am_go0 cl 177 151 [a0, a1, a2, a3, a4, some (.inl x)] (.inl x :: st) h := am_r am_m177 d_177_149 rfl
theorem d_177_151 : am_code 177 151 = some (.iaload, 1) := by decide +kernel
theorem s_177_151 (cl : am_C) (ls : am_Ls) (i : Int) (k : Nat) (st : List am_V) (N : Nat) (I : Nat → Int → Int) (L : Nat → Int → Int64) : am_go0 cl 177 151 ls (.inl i :: .inr (.inr (some k)) :: st) (am_GS N, am_GR, I, L) = if am_inb (am_GS N) k 0 i = true then am_go0 cl 177 152 ls (.inl (I k i) :: st) (am_GS N, am_GR, I, L) else none := am_rA am_m177 d_177_151 (by decide) rfl k ls st i _ _ I L
theorem d_177_152 : am_code 177 152 = some (.iastore, 1) := by decide +kernel
theorem s_177_152 (cl : am_C) (ls : am_Ls) (i : Int) (v : Int) (k : Nat) (st : List am_V) (N : Nat) (I : Nat → Int → Int) (L : Nat → Int → Int64) : am_go0 cl 177 152 ls (.inl v :: .inl i :: .inr (.inr (some k)) :: st) (am_GS N, am_GR, I, L) = if am_inb (am_GS N) k 0 i = true then am_go0 cl 177 153 ls st (am_GS N, am_GR, am_uI I k i v, L) else none := am_rS am_m177 d_177_152 rfl k ls st i v _ _ I L
theorem d_177_153 : am_code 177 153 = some (.iinc 4 1, 3) := by decide +kernel
theorem s_177_153 (cl : am_C) (a0 a1 a2 a3 a5 : Option am_V) (x : Int) (st : List am_V) (h : am_H) : am_go0 cl 177 153 [a0, a1, a2, a3, some (.inl x), a5] st h = am_go0 cl 177 156 [a0, a1, a2, am_c1 a3, some (.inl (am_wr (x + 1))), a5] st h := am_r am_m177 d_177_153 rfl
theorem d_177_156 : am_code 177 156 = some (.goto 138, 3) := by decide +kernel
theorem s_177_156 (cl : am_C) (ls : am_Ls) (st : List am_V) (h : am_H) : am_go0 cl 177 156 ls st h = am_go0 cl 177 294 ls st h := am_rGo am_m177 d_177_156 (by decide) _ _ _
theorem d_177_159 : am_code 177 159 = some (.aload_n 0, 1) := by decide +kernel
theorem s_177_159 (cl : am_C) (a1 a2 a3 a4 a5 : Option am_V) (x : Nat) (st : List am_V) (h : am_H) : am_go0 cl 177 159 [some (.inr (.inr (some x))), a1, a2, a3, a4, a5] st h = am_go0 cl 177 160 [some (.inr (.inr (some x))), a1, a2, a3, a4, a5] (.inr (.inr (some x)) :: st) h := am_r am_m177 d_177_159 rfl
theorem d_177_160 : am_code 177 160 = some (.getfield 23, 3) := by decide +kernel
theorem s_177_160 (cl : am_C) (ls : am_Ls) (st : List am_V) (N : Nat) (I : Nat → Int → Int) (L : Nat → Int → Int64) : am_go0 cl 177 160 ls (.inr (.inr (some 53)) :: st) (am_GS N, am_GR, I, L) = am_go0 cl 177 163 ls (.inr (.inr (some 57)) :: st) (am_GS N, am_GR, I, L) := am_rG2 am_m177 d_177_160 am_f9023 rfl (gs_53 N) (by decide) gr_53_5 rfl
theorem d_177_163 : am_code 177 163 = some (.iload 5, 2) := by decide +kernel
theorem s_177_163 (cl : am_C) (a0 a1 a2 a3 a4 : Option am_V) (x : Int) (st : List am_V) (h : am_H) : am_go0 cl 177 163 [a0, a1, a2, a3, a4, some (.inl x)] st h = am_go0 cl 177 165 [a0, a1, a2, a3, a4, some (.inl x)] (.inl x :: st) h := am_r am_m177 d_177_163 rfl
theorem d_177_165 : am_code 177 165 = some (.iaload, 1) := by decide +kernel
theorem s_177_165 (cl : am_C) (ls : am_Ls) (i : Int) (k : Nat) (st : List am_V) (N : Nat) (I : Nat → Int → Int) (L : Nat → Int → Int64) : am_go0 cl 177 165 ls (.inl i :: .inr (.inr (some k)) :: st) (am_GS N, am_GR, I, L) = if am_inb (am_GS N) k 0 i = true then am_go0 cl 177 166 ls (.inl (I k i) :: st) (am_GS N, am_GR, I, L) else none := am_rA am_m177 d_177_165 (by decide) rfl k ls st i _ _ I L
theorem d_177_166 : am_code 177 166 = some (.iconst 1, 1) := by decide +kernel
theorem s_177_166 (cl : am_C) (ls : am_Ls) (st : List am_V) (h : am_H) : am_go0 cl 177 166 ls st h = am_go0 cl 177 167 ls (.inl 1 :: st) h := am_rK am_m177 d_177_166 (by decide) rfl _ _ _
theorem d_177_167 : am_code 177 167 = some (.if_icmp .le 39, 3) := by decide +kernel
theorem s_177_167 (cl : am_C) (ls : am_Ls) (x y : Int) (st : List am_V) (h : am_H) : am_go0 cl 177 167 ls (.inl y :: .inl x :: st) h = if y < x then am_go0 cl 177 170 ls st h else am_go0 cl 177 206 ls st h := (am_rJ0 am_m177 d_177_167 (by decide) rfl x y ls st h).trans (am_ifF ((am_cmp_le x y).trans Int.not_lt.symm) _ _)
theorem d_177_170 : am_code 177 170 = some (.aload_n 0, 1) := by decide +kernel
theorem s_177_170 (cl : am_C) (a1 a2 a3 a4 a5 : Option am_V) (x : Nat) (st : List am_V) (h : am_H) : am_go0 cl 177 170 [some (.inr (.inr (some x))), a1, a2, a3, a4, a5] st h = am_go0 cl 177 171 [some (.inr (.inr (some x))), a1, a2, a3, a4, a5] (.inr (.inr (some x)) :: st) h := am_r am_m177 d_177_170 rfl
theorem d_177_171 : am_code 177 171 = some (.getfield 29, 3) := by decide +kernel
theorem s_177_171 (cl : am_C) (ls : am_Ls) (st : List am_V) (N : Nat) (I : Nat → Int → Int) (L : Nat → Int → Int64) : am_go0 cl 177 171 ls (.inr (.inr (some 53)) :: st) (am_GS N, am_GR, I, L) = am_go0 cl 177 174 ls (.inr (.inr (some 59)) :: st) (am_GS N, am_GR, I, L) := am_rG2 am_m177 d_177_171 am_f9029 rfl (gs_53 N) (by decide) gr_53_7 rfl
theorem d_177_174 : am_code 177 174 = some (.aload_n 0, 1) := by decide +kernel
theorem s_177_174 (cl : am_C) (a1 a2 a3 a4 a5 : Option am_V) (x : Nat) (st : List am_V) (h : am_H) : am_go0 cl 177 174 [some (.inr (.inr (some x))), a1, a2, a3, a4, a5] st h = am_go0 cl 177 175 [some (.inr (.inr (some x))), a1, a2, a3, a4, a5] (.inr (.inr (some x)) :: st) h := am_r am_m177 d_177_174 rfl
theorem d_177_175 : am_code 177 175 = some (.getfield 23, 3) := by decide +kernel
theorem s_177_175 (cl : am_C) (ls : am_Ls) (st : List am_V) (N : Nat) (I : Nat → Int → Int) (L : Nat → Int → Int64) : am_go0 cl 177 175 ls (.inr (.inr (some 53)) :: st) (am_GS N, am_GR, I, L) = am_go0 cl 177 178 ls (.inr (.inr (some 57)) :: st) (am_GS N, am_GR, I, L) := am_rG2 am_m177 d_177_175 am_f9023 rfl (gs_53 N) (by decide) gr_53_5 rfl
theorem d_177_178 : am_code 177 178 = some (.iload 5, 2) := by decide +kernel
theorem s_177_178 (cl : am_C) (a0 a1 a2 a3 a4 : Option am_V) (x : Int) (st : List am_V) (h : am_H) : am_go0 cl 177 178 [a0, a1, a2, a3, a4, some (.inl x)] st h = am_go0 cl 177 180 [a0, a1, a2, a3, a4, some (.inl x)] (.inl x :: st) h := am_r am_m177 d_177_178 rfl
theorem d_177_180 : am_code 177 180 = some (.iaload, 1) := by decide +kernel
theorem s_177_180 (cl : am_C) (ls : am_Ls) (i : Int) (k : Nat) (st : List am_V) (N : Nat) (I : Nat → Int → Int) (L : Nat → Int → Int64) : am_go0 cl 177 180 ls (.inl i :: .inr (.inr (some k)) :: st) (am_GS N, am_GR, I, L) = if am_inb (am_GS N) k 0 i = true then am_go0 cl 177 181 ls (.inl (I k i) :: st) (am_GS N, am_GR, I, L) else none := am_rA am_m177 d_177_180 (by decide) rfl k ls st i _ _ I L
theorem d_177_181 : am_code 177 181 = some (.iaload, 1) := by decide +kernel
theorem s_177_181 (cl : am_C) (ls : am_Ls) (i : Int) (k : Nat) (st : List am_V) (N : Nat) (I : Nat → Int → Int) (L : Nat → Int → Int64) : am_go0 cl 177 181 ls (.inl i :: .inr (.inr (some k)) :: st) (am_GS N, am_GR, I, L) = if am_inb (am_GS N) k 0 i = true then am_go0 cl 177 182 ls (.inl (I k i) :: st) (am_GS N, am_GR, I, L) else none := am_rA am_m177 d_177_181 (by decide) rfl k ls st i _ _ I L
theorem d_177_182 : am_code 177 182 = some (.iconst (-1), 1) := by decide +kernel
theorem s_177_182 (cl : am_C) (ls : am_Ls) (st : List am_V) (h : am_H) : am_go0 cl 177 182 ls st h = am_go0 cl 177 183 ls (.inl (-1) :: st) h := am_rK am_m177 d_177_182 (by decide) rfl _ _ _
theorem d_177_183 : am_code 177 183 = some (.if_icmp .ne 23, 3) := by decide +kernel
theorem s_177_183 (cl : am_C) (ls : am_Ls) (x y : Int) (st : List am_V) (h : am_H) : am_go0 cl 177 183 ls (.inl y :: .inl x :: st) h = if x = y then am_go0 cl 177 186 ls st h else am_go0 cl 177 206 ls st h := (am_rJ0 am_m177 d_177_183 (by decide) rfl x y ls st h).trans (am_ifF ((am_cmp_ne x y).trans Iff.rfl) _ _)
theorem d_177_186 : am_code 177 186 = some (.aload_n 0, 1) := by decide +kernel
theorem s_177_186 (cl : am_C) (a1 a2 a3 a4 a5 : Option am_V) (x : Nat) (st : List am_V) (h : am_H) : am_go0 cl 177 186 [some (.inr (.inr (some x))), a1, a2, a3, a4, a5] st h = am_go0 cl 177 187 [some (.inr (.inr (some x))), a1, a2, a3, a4, a5] (.inr (.inr (some x)) :: st) h := am_r am_m177 d_177_186 rfl
theorem d_177_187 : am_code 177 187 = some (.getfield 32, 3) := by decide +kernel
theorem s_177_187 (cl : am_C) (ls : am_Ls) (st : List am_V) (N : Nat) (I : Nat → Int → Int) (L : Nat → Int → Int64) : am_go0 cl 177 187 ls (.inr (.inr (some 53)) :: st) (am_GS N, am_GR, I, L) = am_go0 cl 177 190 ls (.inr (.inr (some 60)) :: st) (am_GS N, am_GR, I, L) := am_rG2 am_m177 d_177_187 am_f9032 rfl (gs_53 N) (by decide) gr_53_8 rfl
theorem d_177_190 : am_code 177 190 = some (.iload 4, 2) := by decide +kernel
theorem s_177_190 (cl : am_C) (a0 a1 a2 a3 a5 : Option am_V) (x : Int) (st : List am_V) (h : am_H) : am_go0 cl 177 190 [a0, a1, a2, a3, some (.inl x), a5] st h = am_go0 cl 177 192 [a0, a1, a2, a3, some (.inl x), a5] (.inl x :: st) h := am_r am_m177 d_177_190 rfl
theorem d_177_192 : am_code 177 192 = some (.aload_n 0, 1) := by decide +kernel
theorem s_177_192 (cl : am_C) (a1 a2 a3 a4 a5 : Option am_V) (x : Nat) (st : List am_V) (h : am_H) : am_go0 cl 177 192 [some (.inr (.inr (some x))), a1, a2, a3, a4, a5] st h = am_go0 cl 177 193 [some (.inr (.inr (some x))), a1, a2, a3, a4, a5] (.inr (.inr (some x)) :: st) h := am_r am_m177 d_177_192 rfl
theorem d_177_193 : am_code 177 193 = some (.getfield 23, 3) := by decide +kernel
theorem s_177_193 (cl : am_C) (ls : am_Ls) (st : List am_V) (N : Nat) (I : Nat → Int → Int) (L : Nat → Int → Int64) : am_go0 cl 177 193 ls (.inr (.inr (some 53)) :: st) (am_GS N, am_GR, I, L) = am_go0 cl 177 196 ls (.inr (.inr (some 57)) :: st) (am_GS N, am_GR, I, L) := am_rG2 am_m177 d_177_193 am_f9023 rfl (gs_53 N) (by decide) gr_53_5 rfl
theorem d_177_196 : am_code 177 196 = some (.iload 5, 2) := by decide +kernel
theorem s_177_196 (cl : am_C) (a0 a1 a2 a3 a4 : Option am_V) (x : Int) (st : List am_V) (h : am_H) : am_go0 cl 177 196 [a0, a1, a2, a3, a4, some (.inl x)] st h = am_go0 cl 177 198 [a0, a1, a2, a3, a4, some (.inl x)] (.inl x :: st) h := am_r am_m177 d_177_196 rfl
theorem d_177_198 : am_code 177 198 = some (.iaload, 1) := by decide +kernel
theorem s_177_198 (cl : am_C) (ls : am_Ls) (i : Int) (k : Nat) (st : List am_V) (N : Nat) (I : Nat → Int → Int) (L : Nat → Int → Int64) : am_go0 cl 177 198 ls (.inl i :: .inr (.inr (some k)) :: st) (am_GS N, am_GR, I, L) = if am_inb (am_GS N) k 0 i = true then am_go0 cl 177 199 ls (.inl (I k i) :: st) (am_GS N, am_GR, I, L) else none := am_rA am_m177 d_177_198 (by decide) rfl k ls st i _ _ I L
theorem d_177_199 : am_code 177 199 = some (.iastore, 1) := by decide +kernel
theorem s_177_199 (cl : am_C) (ls : am_Ls) (i : Int) (v : Int) (k : Nat) (st : List am_V) (N : Nat) (I : Nat → Int → Int) (L : Nat → Int → Int64) : am_go0 cl 177 199 ls (.inl v :: .inl i :: .inr (.inr (some k)) :: st) (am_GS N, am_GR, I, L) = if am_inb (am_GS N) k 0 i = true then am_go0 cl 177 200 ls st (am_GS N, am_GR, am_uI I k i v, L) else none := am_rS am_m177 d_177_199 rfl k ls st i v _ _ I L
theorem d_177_200 : am_code 177 200 = some (.iinc 4 1, 3) := by decide +kernel
theorem s_177_200 (cl : am_C) (a0 a1 a2 a3 a5 : Option am_V) (x : Int) (st : List am_V) (h : am_H) : am_go0 cl 177 200 [a0, a1, a2, a3, some (.inl x), a5] st h = am_go0 cl 177 203 [a0, a1, a2, am_c1 a3, some (.inl (am_wr (x + 1))), a5] st h := am_r am_m177 d_177_200 rfl
theorem d_177_203 : am_code 177 203 = some (.goto 91, 3) := by decide +kernel
theorem s_177_203 (cl : am_C) (ls : am_Ls) (st : List am_V) (h : am_H) : am_go0 cl 177 203 ls st h = am_go0 cl 177 294 ls st h := am_rGo am_m177 d_177_203 (by decide) _ _ _
theorem d_177_206 : am_code 177 206 = some (.aload_n 0, 1) := by decide +kernel
theorem s_177_206 (cl : am_C) (a1 a2 a3 a4 a5 : Option am_V) (x : Nat) (st : List am_V) (h : am_H) : am_go0 cl 177 206 [some (.inr (.inr (some x))), a1, a2, a3, a4, a5] st h = am_go0 cl 177 207 [some (.inr (.inr (some x))), a1, a2, a3, a4, a5] (.inr (.inr (some x)) :: st) h := am_r am_m177 d_177_206 rfl
theorem d_177_207 : am_code 177 207 = some (.getfield 29, 3) := by decide +kernel
theorem s_177_207 (cl : am_C) (ls : am_Ls) (st : List am_V) (N : Nat) (I : Nat → Int → Int) (L : Nat → Int → Int64) : am_go0 cl 177 207 ls (.inr (.inr (some 53)) :: st) (am_GS N, am_GR, I, L) = am_go0 cl 177 210 ls (.inr (.inr (some 59)) :: st) (am_GS N, am_GR, I, L) := am_rG2 am_m177 d_177_207 am_f9029 rfl (gs_53 N) (by decide) gr_53_7 rfl
theorem d_177_210 : am_code 177 210 = some (.iload 5, 2) := by decide +kernel
theorem s_177_210 (cl : am_C) (a0 a1 a2 a3 a4 : Option am_V) (x : Int) (st : List am_V) (h : am_H) : am_go0 cl 177 210 [a0, a1, a2, a3, a4, some (.inl x)] st h = am_go0 cl 177 212 [a0, a1, a2, a3, a4, some (.inl x)] (.inl x :: st) h := am_r am_m177 d_177_210 rfl
theorem d_177_212 : am_code 177 212 = some (.aload_n 0, 1) := by decide +kernel
theorem s_177_212 (cl : am_C) (a1 a2 a3 a4 a5 : Option am_V) (x : Nat) (st : List am_V) (h : am_H) : am_go0 cl 177 212 [some (.inr (.inr (some x))), a1, a2, a3, a4, a5] st h = am_go0 cl 177 213 [some (.inr (.inr (some x))), a1, a2, a3, a4, a5] (.inr (.inr (some x)) :: st) h := am_r am_m177 d_177_212 rfl
theorem d_177_213 : am_code 177 213 = some (.aload_n 0, 1) := by decide +kernel
theorem s_177_213 (cl : am_C) (a1 a2 a3 a4 a5 : Option am_V) (x : Nat) (st : List am_V) (h : am_H) : am_go0 cl 177 213 [some (.inr (.inr (some x))), a1, a2, a3, a4, a5] st h = am_go0 cl 177 214 [some (.inr (.inr (some x))), a1, a2, a3, a4, a5] (.inr (.inr (some x)) :: st) h := am_r am_m177 d_177_213 rfl
theorem d_177_214 : am_code 177 214 = some (.getfield 17, 3) := by decide +kernel
theorem s_177_214 (cl : am_C) (ls : am_Ls) (st : List am_V) (N : Nat) (I : Nat → Int → Int) (L : Nat → Int → Int64) : am_go0 cl 177 214 ls (.inr (.inr (some 53)) :: st) (am_GS N, am_GR, I, L) = am_go0 cl 177 217 ls (.inr (.inr (some 55)) :: st) (am_GS N, am_GR, I, L) := am_rG2 am_m177 d_177_214 am_f9017 rfl (gs_53 N) (by decide) gr_53_3 rfl
theorem d_177_217 : am_code 177 217 = some (.iload 5, 2) := by decide +kernel
theorem s_177_217 (cl : am_C) (a0 a1 a2 a3 a4 : Option am_V) (x : Int) (st : List am_V) (h : am_H) : am_go0 cl 177 217 [a0, a1, a2, a3, a4, some (.inl x)] st h = am_go0 cl 177 219 [a0, a1, a2, a3, a4, some (.inl x)] (.inl x :: st) h := am_r am_m177 d_177_217 rfl
theorem d_177_219 : am_code 177 219 = some (.iaload, 1) := by decide +kernel
theorem s_177_219 (cl : am_C) (ls : am_Ls) (i : Int) (k : Nat) (st : List am_V) (N : Nat) (I : Nat → Int → Int) (L : Nat → Int → Int64) : am_go0 cl 177 219 ls (.inl i :: .inr (.inr (some k)) :: st) (am_GS N, am_GR, I, L) = if am_inb (am_GS N) k 0 i = true then am_go0 cl 177 220 ls (.inl (I k i) :: st) (am_GS N, am_GR, I, L) else none := am_rA am_m177 d_177_219 (by decide) rfl k ls st i _ _ I L
theorem d_177_220 : am_code 177 220 = some (.aload_n 0, 1) := by decide +kernel
theorem s_177_220 (cl : am_C) (a1 a2 a3 a4 a5 : Option am_V) (x : Nat) (st : List am_V) (h : am_H) : am_go0 cl 177 220 [some (.inr (.inr (some x))), a1, a2, a3, a4, a5] st h = am_go0 cl 177 221 [some (.inr (.inr (some x))), a1, a2, a3, a4, a5] (.inr (.inr (some x)) :: st) h := am_r am_m177 d_177_220 rfl
theorem d_177_221 : am_code 177 221 = some (.getfield 20, 3) := by decide +kernel
theorem s_177_221 (cl : am_C) (ls : am_Ls) (st : List am_V) (N : Nat) (I : Nat → Int → Int) (L : Nat → Int → Int64) : am_go0 cl 177 221 ls (.inr (.inr (some 53)) :: st) (am_GS N, am_GR, I, L) = am_go0 cl 177 224 ls (.inr (.inr (some 56)) :: st) (am_GS N, am_GR, I, L) := am_rG2 am_m177 d_177_221 am_f9020 rfl (gs_53 N) (by decide) gr_53_4 rfl
theorem d_177_224 : am_code 177 224 = some (.iload 5, 2) := by decide +kernel
theorem s_177_224 (cl : am_C) (a0 a1 a2 a3 a4 : Option am_V) (x : Int) (st : List am_V) (h : am_H) : am_go0 cl 177 224 [a0, a1, a2, a3, a4, some (.inl x)] st h = am_go0 cl 177 226 [a0, a1, a2, a3, a4, some (.inl x)] (.inl x :: st) h := am_r am_m177 d_177_224 rfl
theorem d_177_226 : am_code 177 226 = some (.iaload, 1) := by decide +kernel
theorem s_177_226 (cl : am_C) (ls : am_Ls) (i : Int) (k : Nat) (st : List am_V) (N : Nat) (I : Nat → Int → Int) (L : Nat → Int → Int64) : am_go0 cl 177 226 ls (.inl i :: .inr (.inr (some k)) :: st) (am_GS N, am_GR, I, L) = if am_inb (am_GS N) k 0 i = true then am_go0 cl 177 227 ls (.inl (I k i) :: st) (am_GS N, am_GR, I, L) else none := am_rA am_m177 d_177_226 (by decide) rfl k ls st i _ _ I L
theorem d_177_227 : am_code 177 227 = some (.ifCond .ge 7, 3) := by decide +kernel
theorem s_177_227 (cl : am_C) (ls : am_Ls) (x : Int) (st : List am_V) (h : am_H) : am_go0 cl 177 227 ls (.inl x :: st) h = if x < 0 then am_go0 cl 177 230 ls st h else am_go0 cl 177 234 ls st h := (am_rJ1 am_m177 d_177_227 (by decide) rfl x ls st h).trans (am_ifF ((am_cmp_ge x 0).trans Int.not_lt.symm) _ _)
theorem d_177_230 : am_code 177 230 = some (.iconst (-1), 1) := by decide +kernel
theorem s_177_230 (cl : am_C) (ls : am_Ls) (st : List am_V) (h : am_H) : am_go0 cl 177 230 ls st h = am_go0 cl 177 231 ls (.inl (-1) :: st) h := am_rK am_m177 d_177_230 (by decide) rfl _ _ _
theorem d_177_231 : am_code 177 231 = some (.goto 15, 3) := by decide +kernel
theorem s_177_231 (cl : am_C) (ls : am_Ls) (st : List am_V) (h : am_H) : am_go0 cl 177 231 ls st h = am_go0 cl 177 246 ls st h := am_rGo am_m177 d_177_231 (by decide) _ _ _
theorem d_177_234 : am_code 177 234 = some (.aload_n 0, 1) := by decide +kernel
theorem s_177_234 (cl : am_C) (a1 a2 a3 a4 a5 : Option am_V) (x : Nat) (st : List am_V) (h : am_H) : am_go0 cl 177 234 [some (.inr (.inr (some x))), a1, a2, a3, a4, a5] st h = am_go0 cl 177 235 [some (.inr (.inr (some x))), a1, a2, a3, a4, a5] (.inr (.inr (some x)) :: st) h := am_r am_m177 d_177_234 rfl
theorem d_177_235 : am_code 177 235 = some (.getfield 29, 3) := by decide +kernel
theorem s_177_235 (cl : am_C) (ls : am_Ls) (st : List am_V) (N : Nat) (I : Nat → Int → Int) (L : Nat → Int → Int64) : am_go0 cl 177 235 ls (.inr (.inr (some 53)) :: st) (am_GS N, am_GR, I, L) = am_go0 cl 177 238 ls (.inr (.inr (some 59)) :: st) (am_GS N, am_GR, I, L) := am_rG2 am_m177 d_177_235 am_f9029 rfl (gs_53 N) (by decide) gr_53_7 rfl
theorem d_177_238 : am_code 177 238 = some (.aload_n 0, 1) := by decide +kernel
theorem s_177_238 (cl : am_C) (a1 a2 a3 a4 a5 : Option am_V) (x : Nat) (st : List am_V) (h : am_H) : am_go0 cl 177 238 [some (.inr (.inr (some x))), a1, a2, a3, a4, a5] st h = am_go0 cl 177 239 [some (.inr (.inr (some x))), a1, a2, a3, a4, a5] (.inr (.inr (some x)) :: st) h := am_r am_m177 d_177_238 rfl
theorem d_177_239 : am_code 177 239 = some (.getfield 20, 3) := by decide +kernel
theorem s_177_239 (cl : am_C) (ls : am_Ls) (st : List am_V) (N : Nat) (I : Nat → Int → Int) (L : Nat → Int → Int64) : am_go0 cl 177 239 ls (.inr (.inr (some 53)) :: st) (am_GS N, am_GR, I, L) = am_go0 cl 177 242 ls (.inr (.inr (some 56)) :: st) (am_GS N, am_GR, I, L) := am_rG2 am_m177 d_177_239 am_f9020 rfl (gs_53 N) (by decide) gr_53_4 rfl
theorem d_177_242 : am_code 177 242 = some (.iload 5, 2) := by decide +kernel
theorem s_177_242 (cl : am_C) (a0 a1 a2 a3 a4 : Option am_V) (x : Int) (st : List am_V) (h : am_H) : am_go0 cl 177 242 [a0, a1, a2, a3, a4, some (.inl x)] st h = am_go0 cl 177 244 [a0, a1, a2, a3, a4, some (.inl x)] (.inl x :: st) h := am_r am_m177 d_177_242 rfl
theorem d_177_244 : am_code 177 244 = some (.iaload, 1) := by decide +kernel
theorem s_177_244 (cl : am_C) (ls : am_Ls) (i : Int) (k : Nat) (st : List am_V) (N : Nat) (I : Nat → Int → Int) (L : Nat → Int → Int64) : am_go0 cl 177 244 ls (.inl i :: .inr (.inr (some k)) :: st) (am_GS N, am_GR, I, L) = if am_inb (am_GS N) k 0 i = true then am_go0 cl 177 245 ls (.inl (I k i) :: st) (am_GS N, am_GR, I, L) else none := am_rA am_m177 d_177_244 (by decide) rfl k ls st i _ _ I L
theorem d_177_245 : am_code 177 245 = some (.iaload, 1) := by decide +kernel
theorem s_177_245 (cl : am_C) (ls : am_Ls) (i : Int) (k : Nat) (st : List am_V) (N : Nat) (I : Nat → Int → Int) (L : Nat → Int → Int64) : am_go0 cl 177 245 ls (.inl i :: .inr (.inr (some k)) :: st) (am_GS N, am_GR, I, L) = if am_inb (am_GS N) k 0 i = true then am_go0 cl 177 246 ls (.inl (I k i) :: st) (am_GS N, am_GR, I, L) else none := am_rA am_m177 d_177_245 (by decide) rfl k ls st i _ _ I L
theorem d_177_246 : am_code 177 246 = some (.aload_n 0, 1) := by decide +kernel
theorem s_177_246 (cl : am_C) (a1 a2 a3 a4 a5 : Option am_V) (x : Nat) (st : List am_V) (h : am_H) : am_go0 cl 177 246 [some (.inr (.inr (some x))), a1, a2, a3, a4, a5] st h = am_go0 cl 177 247 [some (.inr (.inr (some x))), a1, a2, a3, a4, a5] (.inr (.inr (some x)) :: st) h := am_r am_m177 d_177_246 rfl
theorem d_177_247 : am_code 177 247 = some (.getfield 23, 3) := by decide +kernel
theorem s_177_247 (cl : am_C) (ls : am_Ls) (st : List am_V) (N : Nat) (I : Nat → Int → Int) (L : Nat → Int → Int64) : am_go0 cl 177 247 ls (.inr (.inr (some 53)) :: st) (am_GS N, am_GR, I, L) = am_go0 cl 177 250 ls (.inr (.inr (some 57)) :: st) (am_GS N, am_GR, I, L) := am_rG2 am_m177 d_177_247 am_f9023 rfl (gs_53 N) (by decide) gr_53_5 rfl
theorem d_177_250 : am_code 177 250 = some (.iload 5, 2) := by decide +kernel
theorem s_177_250 (cl : am_C) (a0 a1 a2 a3 a4 : Option am_V) (x : Int) (st : List am_V) (h : am_H) : am_go0 cl 177 250 [a0, a1, a2, a3, a4, some (.inl x)] st h = am_go0 cl 177 252 [a0, a1, a2, a3, a4, some (.inl x)] (.inl x :: st) h := am_r am_m177 d_177_250 rfl
theorem d_177_252 : am_code 177 252 = some (.iaload, 1) := by decide +kernel
theorem s_177_252 (cl : am_C) (ls : am_Ls) (i : Int) (k : Nat) (st : List am_V) (N : Nat) (I : Nat → Int → Int) (L : Nat → Int → Int64) : am_go0 cl 177 252 ls (.inl i :: .inr (.inr (some k)) :: st) (am_GS N, am_GR, I, L) = if am_inb (am_GS N) k 0 i = true then am_go0 cl 177 253 ls (.inl (I k i) :: st) (am_GS N, am_GR, I, L) else none := am_rA am_m177 d_177_252 (by decide) rfl k ls st i _ _ I L
theorem d_177_253 : am_code 177 253 = some (.ifCond .ge 7, 3) := by decide +kernel
theorem s_177_253 (cl : am_C) (ls : am_Ls) (x : Int) (st : List am_V) (h : am_H) : am_go0 cl 177 253 ls (.inl x :: st) h = if x < 0 then am_go0 cl 177 256 ls st h else am_go0 cl 177 260 ls st h := (am_rJ1 am_m177 d_177_253 (by decide) rfl x ls st h).trans (am_ifF ((am_cmp_ge x 0).trans Int.not_lt.symm) _ _)
theorem d_177_256 : am_code 177 256 = some (.iconst (-1), 1) := by decide +kernel
theorem s_177_256 (cl : am_C) (ls : am_Ls) (st : List am_V) (h : am_H) : am_go0 cl 177 256 ls st h = am_go0 cl 177 257 ls (.inl (-1) :: st) h := am_rK am_m177 d_177_256 (by decide) rfl _ _ _
theorem d_177_257 : am_code 177 257 = some (.goto 15, 3) := by decide +kernel
theorem s_177_257 (cl : am_C) (ls : am_Ls) (st : List am_V) (h : am_H) : am_go0 cl 177 257 ls st h = am_go0 cl 177 272 ls st h := am_rGo am_m177 d_177_257 (by decide) _ _ _
theorem d_177_260 : am_code 177 260 = some (.aload_n 0, 1) := by decide +kernel
theorem s_177_260 (cl : am_C) (a1 a2 a3 a4 a5 : Option am_V) (x : Nat) (st : List am_V) (h : am_H) : am_go0 cl 177 260 [some (.inr (.inr (some x))), a1, a2, a3, a4, a5] st h = am_go0 cl 177 261 [some (.inr (.inr (some x))), a1, a2, a3, a4, a5] (.inr (.inr (some x)) :: st) h := am_r am_m177 d_177_260 rfl
theorem d_177_261 : am_code 177 261 = some (.getfield 29, 3) := by decide +kernel
theorem s_177_261 (cl : am_C) (ls : am_Ls) (st : List am_V) (N : Nat) (I : Nat → Int → Int) (L : Nat → Int → Int64) : am_go0 cl 177 261 ls (.inr (.inr (some 53)) :: st) (am_GS N, am_GR, I, L) = am_go0 cl 177 264 ls (.inr (.inr (some 59)) :: st) (am_GS N, am_GR, I, L) := am_rG2 am_m177 d_177_261 am_f9029 rfl (gs_53 N) (by decide) gr_53_7 rfl
theorem d_177_264 : am_code 177 264 = some (.aload_n 0, 1) := by decide +kernel
theorem s_177_264 (cl : am_C) (a1 a2 a3 a4 a5 : Option am_V) (x : Nat) (st : List am_V) (h : am_H) : am_go0 cl 177 264 [some (.inr (.inr (some x))), a1, a2, a3, a4, a5] st h = am_go0 cl 177 265 [some (.inr (.inr (some x))), a1, a2, a3, a4, a5] (.inr (.inr (some x)) :: st) h := am_r am_m177 d_177_264 rfl
theorem d_177_265 : am_code 177 265 = some (.getfield 23, 3) := by decide +kernel
theorem s_177_265 (cl : am_C) (ls : am_Ls) (st : List am_V) (N : Nat) (I : Nat → Int → Int) (L : Nat → Int → Int64) : am_go0 cl 177 265 ls (.inr (.inr (some 53)) :: st) (am_GS N, am_GR, I, L) = am_go0 cl 177 268 ls (.inr (.inr (some 57)) :: st) (am_GS N, am_GR, I, L) := am_rG2 am_m177 d_177_265 am_f9023 rfl (gs_53 N) (by decide) gr_53_5 rfl
theorem d_177_268 : am_code 177 268 = some (.iload 5, 2) := by decide +kernel
theorem s_177_268 (cl : am_C) (a0 a1 a2 a3 a4 : Option am_V) (x : Int) (st : List am_V) (h : am_H) : am_go0 cl 177 268 [a0, a1, a2, a3, a4, some (.inl x)] st h = am_go0 cl 177 270 [a0, a1, a2, a3, a4, some (.inl x)] (.inl x :: st) h := am_r am_m177 d_177_268 rfl
theorem d_177_270 : am_code 177 270 = some (.iaload, 1) := by decide +kernel
theorem s_177_270 (cl : am_C) (ls : am_Ls) (i : Int) (k : Nat) (st : List am_V) (N : Nat) (I : Nat → Int → Int) (L : Nat → Int → Int64) : am_go0 cl 177 270 ls (.inl i :: .inr (.inr (some k)) :: st) (am_GS N, am_GR, I, L) = if am_inb (am_GS N) k 0 i = true then am_go0 cl 177 271 ls (.inl (I k i) :: st) (am_GS N, am_GR, I, L) else none := am_rA am_m177 d_177_270 (by decide) rfl k ls st i _ _ I L
theorem d_177_271 : am_code 177 271 = some (.iaload, 1) := by decide +kernel
theorem s_177_271 (cl : am_C) (ls : am_Ls) (i : Int) (k : Nat) (st : List am_V) (N : Nat) (I : Nat → Int → Int) (L : Nat → Int → Int64) : am_go0 cl 177 271 ls (.inl i :: .inr (.inr (some k)) :: st) (am_GS N, am_GR, I, L) = if am_inb (am_GS N) k 0 i = true then am_go0 cl 177 272 ls (.inl (I k i) :: st) (am_GS N, am_GR, I, L) else none := am_rA am_m177 d_177_271 (by decide) rfl k ls st i _ _ I L
theorem d_177_272 : am_code 177 272 = some (.invokevirtual 162, 3) := by decide +kernel
theorem s_177_272 (cl : am_C) (ls : am_Ls) (x0 : Int) (x1 : Int) (x2 : Int) (z0 : Int) (z1 : Nat) (N : Nat) (I : Nat → Int → Int) (L : Nat → Int → Int64) : am_go0 cl 177 272 ls [.inl x2, .inl x1, .inl x0, .inr (.inr (some 53)), .inl z0, .inr (.inr (some z1))] (am_GS N, am_GR, I, L) = am_bd (cl 138 [.inr (.inr (some 53)), .inl x0, .inl x1, .inl x2] (am_GS N, am_GR, I, L)) (fun v h2 => am_go0 cl 177 275 ls (v.toList ++ [.inl z0, .inr (.inr (some z1))]) h2) := am_rV am_m177 d_177_272 am_k9162 rfl am_m138 (gs_53 N) (by decide) (Nat.le_of_ble_eq_true rfl) rfl ls
theorem d_177_275 : am_code 177 275 = some (.iastore, 1) := by decide +kernel
theorem s_177_275 (cl : am_C) (ls : am_Ls) (i : Int) (v : Int) (k : Nat) (st : List am_V) (N : Nat) (I : Nat → Int → Int) (L : Nat → Int → Int64) : am_go0 cl 177 275 ls (.inl v :: .inl i :: .inr (.inr (some k)) :: st) (am_GS N, am_GR, I, L) = if am_inb (am_GS N) k 0 i = true then am_go0 cl 177 276 ls st (am_GS N, am_GR, am_uI I k i v, L) else none := am_rS am_m177 d_177_275 rfl k ls st i v _ _ I L
theorem d_177_276 : am_code 177 276 = some (.aload_n 0, 1) := by decide +kernel
theorem s_177_276 (cl : am_C) (a1 a2 a3 a4 a5 : Option am_V) (x : Nat) (st : List am_V) (h : am_H) : am_go0 cl 177 276 [some (.inr (.inr (some x))), a1, a2, a3, a4, a5] st h = am_go0 cl 177 277 [some (.inr (.inr (some x))), a1, a2, a3, a4, a5] (.inr (.inr (some x)) :: st) h := am_r am_m177 d_177_276 rfl
theorem d_177_277 : am_code 177 277 = some (.getfield 29, 3) := by decide +kernel
theorem s_177_277 (cl : am_C) (ls : am_Ls) (st : List am_V) (N : Nat) (I : Nat → Int → Int) (L : Nat → Int → Int64) : am_go0 cl 177 277 ls (.inr (.inr (some 53)) :: st) (am_GS N, am_GR, I, L) = am_go0 cl 177 280 ls (.inr (.inr (some 59)) :: st) (am_GS N, am_GR, I, L) := am_rG2 am_m177 d_177_277 am_f9029 rfl (gs_53 N) (by decide) gr_53_7 rfl
theorem d_177_280 : am_code 177 280 = some (.iload 5, 2) := by decide +kernel
theorem s_177_280 (cl : am_C) (a0 a1 a2 a3 a4 : Option am_V) (x : Int) (st : List am_V) (h : am_H) : am_go0 cl 177 280 [a0, a1, a2, a3, a4, some (.inl x)] st h = am_go0 cl 177 282 [a0, a1, a2, a3, a4, some (.inl x)] (.inl x :: st) h := am_r am_m177 d_177_280 rfl
theorem d_177_282 : am_code 177 282 = some (.iaload, 1) := by decide +kernel
theorem s_177_282 (cl : am_C) (ls : am_Ls) (i : Int) (k : Nat) (st : List am_V) (N : Nat) (I : Nat → Int → Int) (L : Nat → Int → Int64) : am_go0 cl 177 282 ls (.inl i :: .inr (.inr (some k)) :: st) (am_GS N, am_GR, I, L) = if am_inb (am_GS N) k 0 i = true then am_go0 cl 177 283 ls (.inl (I k i) :: st) (am_GS N, am_GR, I, L) else none := am_rA am_m177 d_177_282 (by decide) rfl k ls st i _ _ I L
theorem d_177_283 : am_code 177 283 = some (.bipush (-3), 2) := by decide +kernel
theorem s_177_283 (cl : am_C) (ls : am_Ls) (st : List am_V) (h : am_H) : am_go0 cl 177 283 ls st h = am_go0 cl 177 285 ls (.inl (-3) :: st) h := am_rB am_m177 d_177_283 (by decide) rfl _ _ _
theorem d_177_285 : am_code 177 285 = some (.if_icmp .ne 6, 3) := by decide +kernel
theorem s_177_285 (cl : am_C) (ls : am_Ls) (x y : Int) (st : List am_V) (h : am_H) : am_go0 cl 177 285 ls (.inl y :: .inl x :: st) h = if x = y then am_go0 cl 177 288 ls st h else am_go0 cl 177 291 ls st h := (am_rJ0 am_m177 d_177_285 (by decide) rfl x y ls st h).trans (am_ifF ((am_cmp_ne x y).trans Iff.rfl) _ _)
theorem d_177_288 : am_code 177 288 = some (.bipush (-3), 2) := by decide +kernel
theorem s_177_288 (cl : am_C) (ls : am_Ls) (st : List am_V) (h : am_H) : am_go0 cl 177 288 ls st h = am_go0 cl 177 290 ls (.inl (-3) :: st) h := am_rB am_m177 d_177_288 (by decide) rfl _ _ _
theorem d_177_290 : am_code 177 290 = some (.ireturn, 1) := by decide +kernel
theorem s_177_290 (cl : am_C) (ls : am_Ls) (x : Int) (h : am_H) : am_go0 cl 177 290 ls [.inl x] h = some (some (.inl x), h) := am_rE am_m177 d_177_290 rfl
theorem d_177_291 : am_code 177 291 = some (.iinc 4 (-1), 3) := by decide +kernel
theorem s_177_291 (cl : am_C) (a0 a1 a2 a3 a5 : Option am_V) (x : Int) (st : List am_V) (h : am_H) : am_go0 cl 177 291 [a0, a1, a2, a3, some (.inl x), a5] st h = am_go0 cl 177 294 [a0, a1, a2, am_c1 a3, some (.inl (am_wr (x + (-1)))), a5] st h := am_r am_m177 d_177_291 rfl
theorem d_177_294 : am_code 177 294 = some (.goto (-246), 3) := by decide +kernel
theorem s_177_294 (cl : am_C) (ls : am_Ls) (st : List am_V) (h : am_H) : am_go0 cl 177 294 ls st h = am_go0 cl 177 48 ls st h := am_rGo am_m177 d_177_294 (by decide) _ _ _
theorem d_177_297 : am_code 177 297 = some (.aload_n 0, 1) := by decide +kernel
theorem s_177_297 (cl : am_C) (a1 a2 a3 a4 a5 : Option am_V) (x : Nat) (st : List am_V) (h : am_H) : am_go0 cl 177 297 [some (.inr (.inr (some x))), a1, a2, a3, a4, a5] st h = am_go0 cl 177 298 [some (.inr (.inr (some x))), a1, a2, a3, a4, a5] (.inr (.inr (some x)) :: st) h := am_r am_m177 d_177_297 rfl
theorem d_177_298 : am_code 177 298 = some (.getfield 29, 3) := by decide +kernel
theorem s_177_298 (cl : am_C) (ls : am_Ls) (st : List am_V) (N : Nat) (I : Nat → Int → Int) (L : Nat → Int → Int64) : am_go0 cl 177 298 ls (.inr (.inr (some 53)) :: st) (am_GS N, am_GR, I, L) = am_go0 cl 177 301 ls (.inr (.inr (some 59)) :: st) (am_GS N, am_GR, I, L) := am_rG2 am_m177 d_177_298 am_f9029 rfl (gs_53 N) (by decide) gr_53_7 rfl
theorem d_177_301 : am_code 177 301 = some (.iload_n 1, 1) := by decide +kernel
theorem s_177_301 (cl : am_C) (a0 a2 a3 a4 a5 : Option am_V) (x : Int) (st : List am_V) (h : am_H) : am_go0 cl 177 301 [a0, some (.inl x), a2, a3, a4, a5] st h = am_go0 cl 177 302 [a0, some (.inl x), a2, a3, a4, a5] (.inl x :: st) h := am_r am_m177 d_177_301 rfl
theorem d_177_302 : am_code 177 302 = some (.iaload, 1) := by decide +kernel
theorem s_177_302 (cl : am_C) (ls : am_Ls) (i : Int) (k : Nat) (st : List am_V) (N : Nat) (I : Nat → Int → Int) (L : Nat → Int → Int64) : am_go0 cl 177 302 ls (.inl i :: .inr (.inr (some k)) :: st) (am_GS N, am_GR, I, L) = if am_inb (am_GS N) k 0 i = true then am_go0 cl 177 303 ls (.inl (I k i) :: st) (am_GS N, am_GR, I, L) else none := am_rA am_m177 d_177_302 (by decide) rfl k ls st i _ _ I L
theorem d_177_303 : am_code 177 303 = some (.ireturn, 1) := by decide +kernel
theorem s_177_303 (cl : am_C) (ls : am_Ls) (x : Int) (h : am_H) : am_go0 cl 177 303 ls [.inl x] h = some (some (.inl x), h) := am_rE am_m177 d_177_303 rfl
theorem e_177 (d : Nat) (t : Nat) (p0 : Int) (p1 : Int) (p2 : Int) (h : am_H) : am_call (d + 1) 177 [.inr (.inr (some t)), .inl p0, .inl p1, .inl p2] h = am_go0 (am_call d) 177 0 [some (.inr (.inr (some t))), some (.inl p0), some (.inl p1), some (.inl p2), none, none] [] h := am_callE am_m177 (Nat.le_of_ble_eq_true rfl) rfl
theorem d_178_0 : am_code 178 0 = some (.iload_n 1, 1) := by decide +kernel
theorem s_178_0 (cl : am_C) (a0 : Option am_V) (x : Int) (st : List am_V) (h : am_H) : am_go0 cl 178 0 [a0, some (.inl x)] st h = am_go0 cl 178 1 [a0, some (.inl x)] (.inl x :: st) h := am_r am_m178 d_178_0 rfl
theorem d_178_1 : am_code 178 1 = some (.ifCond .ne 10, 3) := by decide +kernel
theorem s_178_1 (cl : am_C) (ls : am_Ls) (x : Int) (st : List am_V) (h : am_H) : am_go0 cl 178 1 ls (.inl x :: st) h = if x = 0 then am_go0 cl 178 4 ls st h else am_go0 cl 178 11 ls st h := (am_rJ1 am_m178 d_178_1 (by decide) rfl x ls st h).trans (am_ifF ((am_cmp_ne x 0).trans Iff.rfl) _ _)
theorem d_178_4 : am_code 178 4 = some (.aload_n 0, 1) := by decide +kernel
theorem s_178_4 (cl : am_C) (a1 : Option am_V) (x : Nat) (st : List am_V) (h : am_H) : am_go0 cl 178 4 [some (.inr (.inr (some x))), a1] st h = am_go0 cl 178 5 [some (.inr (.inr (some x))), a1] (.inr (.inr (some x)) :: st) h := am_r am_m178 d_178_4 rfl
theorem d_178_5 : am_code 178 5 = some (.getfield 235, 3) := by decide +kernel
theorem s_178_5 (cl : am_C) (ls : am_Ls) (st : List am_V) (N : Nat) (I : Nat → Int → Int) (L : Nat → Int → Int64) : am_go0 cl 178 5 ls (.inr (.inr (some 53)) :: st) (am_GS N, am_GR, I, L) = am_go0 cl 178 8 ls (.inl (I 53 50) :: st) (am_GS N, am_GR, I, L) := am_rG0 am_m178 d_178_5 am_f9235 rfl (gs_53 N) (by decide) rfl
theorem d_178_8 : am_code 178 8 = some (.goto 29, 3) := by decide +kernel
theorem s_178_8 (cl : am_C) (ls : am_Ls) (st : List am_V) (h : am_H) : am_go0 cl 178 8 ls st h = am_go0 cl 178 37 ls st h := am_rGo am_m178 d_178_8 (by decide) _ _ _
theorem d_178_11 : am_code 178 11 = some (.iload_n 1, 1) := by decide +kernel
theorem s_178_11 (cl : am_C) (a0 : Option am_V) (x : Int) (st : List am_V) (h : am_H) : am_go0 cl 178 11 [a0, some (.inl x)] st h = am_go0 cl 178 12 [a0, some (.inl x)] (.inl x :: st) h := am_r am_m178 d_178_11 rfl
theorem d_178_12 : am_code 178 12 = some (.iconst 1, 1) := by decide +kernel
theorem s_178_12 (cl : am_C) (ls : am_Ls) (st : List am_V) (h : am_H) : am_go0 cl 178 12 ls st h = am_go0 cl 178 13 ls (.inl 1 :: st) h := am_rK am_m178 d_178_12 (by decide) rfl _ _ _
theorem d_178_13 : am_code 178 13 = some (.if_icmp .ne 10, 3) := by decide +kernel
theorem s_178_13 (cl : am_C) (ls : am_Ls) (x y : Int) (st : List am_V) (h : am_H) : am_go0 cl 178 13 ls (.inl y :: .inl x :: st) h = if x = y then am_go0 cl 178 16 ls st h else am_go0 cl 178 23 ls st h := (am_rJ0 am_m178 d_178_13 (by decide) rfl x y ls st h).trans (am_ifF ((am_cmp_ne x y).trans Iff.rfl) _ _)
theorem d_178_16 : am_code 178 16 = some (.aload_n 0, 1) := by decide +kernel
theorem s_178_16 (cl : am_C) (a1 : Option am_V) (x : Nat) (st : List am_V) (h : am_H) : am_go0 cl 178 16 [some (.inr (.inr (some x))), a1] st h = am_go0 cl 178 17 [some (.inr (.inr (some x))), a1] (.inr (.inr (some x)) :: st) h := am_r am_m178 d_178_16 rfl
theorem d_178_17 : am_code 178 17 = some (.getfield 139, 3) := by decide +kernel
theorem s_178_17 (cl : am_C) (ls : am_Ls) (st : List am_V) (N : Nat) (I : Nat → Int → Int) (L : Nat → Int → Int64) : am_go0 cl 178 17 ls (.inr (.inr (some 53)) :: st) (am_GS N, am_GR, I, L) = am_go0 cl 178 20 ls (.inl (I 53 51) :: st) (am_GS N, am_GR, I, L) := am_rG0 am_m178 d_178_17 am_f9139 rfl (gs_53 N) (by decide) rfl
theorem d_178_20 : am_code 178 20 = some (.goto 17, 3) := by decide +kernel
theorem s_178_20 (cl : am_C) (ls : am_Ls) (st : List am_V) (h : am_H) : am_go0 cl 178 20 ls st h = am_go0 cl 178 37 ls st h := am_rGo am_m178 d_178_20 (by decide) _ _ _
theorem d_178_23 : am_code 178 23 = some (.iload_n 1, 1) := by decide +kernel
theorem s_178_23 (cl : am_C) (a0 : Option am_V) (x : Int) (st : List am_V) (h : am_H) : am_go0 cl 178 23 [a0, some (.inl x)] st h = am_go0 cl 178 24 [a0, some (.inl x)] (.inl x :: st) h := am_r am_m178 d_178_23 rfl
theorem d_178_24 : am_code 178 24 = some (.iconst 2, 1) := by decide +kernel
theorem s_178_24 (cl : am_C) (ls : am_Ls) (st : List am_V) (h : am_H) : am_go0 cl 178 24 ls st h = am_go0 cl 178 25 ls (.inl 2 :: st) h := am_rK am_m178 d_178_24 (by decide) rfl _ _ _
theorem d_178_25 : am_code 178 25 = some (.if_icmp .ne 10, 3) := by decide +kernel
theorem s_178_25 (cl : am_C) (ls : am_Ls) (x y : Int) (st : List am_V) (h : am_H) : am_go0 cl 178 25 ls (.inl y :: .inl x :: st) h = if x = y then am_go0 cl 178 28 ls st h else am_go0 cl 178 35 ls st h := (am_rJ0 am_m178 d_178_25 (by decide) rfl x y ls st h).trans (am_ifF ((am_cmp_ne x y).trans Iff.rfl) _ _)
theorem d_178_28 : am_code 178 28 = some (.aload_n 0, 1) := by decide +kernel
theorem s_178_28 (cl : am_C) (a1 : Option am_V) (x : Nat) (st : List am_V) (h : am_H) : am_go0 cl 178 28 [some (.inr (.inr (some x))), a1] st h = am_go0 cl 178 29 [some (.inr (.inr (some x))), a1] (.inr (.inr (some x)) :: st) h := am_r am_m178 d_178_28 rfl
theorem d_178_29 : am_code 178 29 = some (.getfield 142, 3) := by decide +kernel
theorem s_178_29 (cl : am_C) (ls : am_Ls) (st : List am_V) (N : Nat) (I : Nat → Int → Int) (L : Nat → Int → Int64) : am_go0 cl 178 29 ls (.inr (.inr (some 53)) :: st) (am_GS N, am_GR, I, L) = am_go0 cl 178 32 ls (.inl (I 53 52) :: st) (am_GS N, am_GR, I, L) := am_rG0 am_m178 d_178_29 am_f9142 rfl (gs_53 N) (by decide) rfl
theorem d_178_32 : am_code 178 32 = some (.goto 5, 3) := by decide +kernel
theorem s_178_32 (cl : am_C) (ls : am_Ls) (st : List am_V) (h : am_H) : am_go0 cl 178 32 ls st h = am_go0 cl 178 37 ls st h := am_rGo am_m178 d_178_32 (by decide) _ _ _
theorem d_178_35 : am_code 178 35 = some (.bipush (-2), 2) := by decide +kernel
theorem s_178_35 (cl : am_C) (ls : am_Ls) (st : List am_V) (h : am_H) : am_go0 cl 178 35 ls st h = am_go0 cl 178 37 ls (.inl (-2) :: st) h := am_rB am_m178 d_178_35 (by decide) rfl _ _ _
theorem d_178_37 : am_code 178 37 = some (.ireturn, 1) := by decide +kernel
theorem s_178_37 (cl : am_C) (ls : am_Ls) (x : Int) (h : am_H) : am_go0 cl 178 37 ls [.inl x] h = some (some (.inl x), h) := am_rE am_m178 d_178_37 rfl
theorem e_178 (d : Nat) (t : Nat) (p0 : Int) (h : am_H) : am_call (d + 1) 178 [.inr (.inr (some t)), .inl p0] h = am_go0 (am_call d) 178 0 [some (.inr (.inr (some t))), some (.inl p0)] [] h := am_callE am_m178 (Nat.le_of_ble_eq_true rfl) rfl
theorem d_179_0 : am_code 179 0 = some (.iload_n 2, 1) := by decide +kernel
theorem s_179_0 (cl : am_C) (a0 a1 : Option am_V) (x : Int) (st : List am_V) (h : am_H) : am_go0 cl 179 0 [a0, a1, some (.inl x)] st h = am_go0 cl 179 1 [a0, a1, some (.inl x)] (.inl x :: st) h := am_r am_m179 d_179_0 rfl
theorem d_179_1 : am_code 179 1 = some (.iconst 0, 1) := by decide +kernel
theorem s_179_1 (cl : am_C) (ls : am_Ls) (st : List am_V) (h : am_H) : am_go0 cl 179 1 ls st h = am_go0 cl 179 2 ls (.inl 0 :: st) h := am_rK am_m179 d_179_1 (by decide) rfl _ _ _
theorem d_179_2 : am_code 179 2 = some (.iconst 1, 1) := by decide +kernel
theorem s_179_2 (cl : am_C) (ls : am_Ls) (st : List am_V) (h : am_H) : am_go0 cl 179 2 ls st h = am_go0 cl 179 3 ls (.inl 1 :: st) h := am_rK am_m179 d_179_2 (by decide) rfl _ _ _
theorem d_179_3 : am_code 179 3 = some (.invokestatic 151, 3) := by decide +kernel
theorem s_179_3 (cl : am_C) (ls : am_Ls) (x0 : Int) (x1 : Int) (x2 : Int) (h : am_H) : am_go0 cl 179 3 ls [.inl x2, .inl x1, .inl x0] h = am_bd (cl 135 [.inl x0, .inl x1, .inl x2] h) (fun v h2 => am_go0 cl 179 6 ls (v.toList ++ []) h2) := am_rVs am_m179 d_179_3 am_k9151 rfl (Nat.le_of_ble_eq_true rfl) rfl ls
theorem d_179_6 : am_code 179 6 = some (.ifCond .ne 6, 3) := by decide +kernel
theorem s_179_6 (cl : am_C) (ls : am_Ls) (x : Int) (st : List am_V) (h : am_H) : am_go0 cl 179 6 ls (.inl x :: st) h = if x = 0 then am_go0 cl 179 9 ls st h else am_go0 cl 179 12 ls st h := (am_rJ1 am_m179 d_179_6 (by decide) rfl x ls st h).trans (am_ifF ((am_cmp_ne x 0).trans Iff.rfl) _ _)
theorem d_179_9 : am_code 179 9 = some (.bipush (-2), 2) := by decide +kernel
theorem s_179_9 (cl : am_C) (ls : am_Ls) (st : List am_V) (h : am_H) : am_go0 cl 179 9 ls st h = am_go0 cl 179 11 ls (.inl (-2) :: st) h := am_rB am_m179 d_179_9 (by decide) rfl _ _ _
theorem d_179_11 : am_code 179 11 = some (.ireturn, 1) := by decide +kernel
theorem s_179_11 (cl : am_C) (ls : am_Ls) (x : Int) (h : am_H) : am_go0 cl 179 11 ls [.inl x] h = some (some (.inl x), h) := am_rE am_m179 d_179_11 rfl
theorem d_179_12 : am_code 179 12 = some (.iload_n 1, 1) := by decide +kernel
theorem s_179_12 (cl : am_C) (a0 a2 : Option am_V) (x : Int) (st : List am_V) (h : am_H) : am_go0 cl 179 12 [a0, some (.inl x), a2] st h = am_go0 cl 179 13 [a0, some (.inl x), a2] (.inl x :: st) h := am_r am_m179 d_179_12 rfl
theorem d_179_13 : am_code 179 13 = some (.iconst 0, 1) := by decide +kernel
theorem s_179_13 (cl : am_C) (ls : am_Ls) (st : List am_V) (h : am_H) : am_go0 cl 179 13 ls st h = am_go0 cl 179 14 ls (.inl 0 :: st) h := am_rK am_m179 d_179_13 (by decide) rfl _ _ _
theorem d_179_14 : am_code 179 14 = some (.aload_n 0, 1) := by decide +kernel
theorem s_179_14 (cl : am_C) (a1 a2 : Option am_V) (x : Nat) (st : List am_V) (h : am_H) : am_go0 cl 179 14 [some (.inr (.inr (some x))), a1, a2] st h = am_go0 cl 179 15 [some (.inr (.inr (some x))), a1, a2] (.inr (.inr (some x)) :: st) h := am_r am_m179 d_179_14 rfl
theorem d_179_15 : am_code 179 15 = some (.getfield 266, 3) := by decide +kernel
theorem s_179_15 (cl : am_C) (ls : am_Ls) (st : List am_V) (N : Nat) (I : Nat → Int → Int) (L : Nat → Int → Int64) : am_go0 cl 179 15 ls (.inr (.inr (some 53)) :: st) (am_GS N, am_GR, I, L) = am_go0 cl 179 18 ls (.inl (I 53 53) :: st) (am_GS N, am_GR, I, L) := am_rG0 am_m179 d_179_15 am_f9266 rfl (gs_53 N) (by decide) rfl
theorem d_179_18 : am_code 179 18 = some (.iconst 1, 1) := by decide +kernel
theorem s_179_18 (cl : am_C) (ls : am_Ls) (st : List am_V) (h : am_H) : am_go0 cl 179 18 ls st h = am_go0 cl 179 19 ls (.inl 1 :: st) h := am_rK am_m179 d_179_18 (by decide) rfl _ _ _
theorem d_179_19 : am_code 179 19 = some (.isub, 1) := by decide +kernel
theorem s_179_19 (cl : am_C) (ls : am_Ls) (x y : Int) (st : List am_V) (h : am_H) : am_go0 cl 179 19 ls (.inl y :: .inl x :: st) h = am_go0 cl 179 20 ls (.inl (am_wr (x - y)) :: st) h := am_r am_m179 d_179_19 rfl
theorem d_179_20 : am_code 179 20 = some (.invokestatic 151, 3) := by decide +kernel
theorem s_179_20 (cl : am_C) (ls : am_Ls) (x0 : Int) (x1 : Int) (x2 : Int) (h : am_H) : am_go0 cl 179 20 ls [.inl x2, .inl x1, .inl x0] h = am_bd (cl 135 [.inl x0, .inl x1, .inl x2] h) (fun v h2 => am_go0 cl 179 23 ls (v.toList ++ []) h2) := am_rVs am_m179 d_179_20 am_k9151 rfl (Nat.le_of_ble_eq_true rfl) rfl ls
theorem d_179_23 : am_code 179 23 = some (.ifCond .ne 7, 3) := by decide +kernel
theorem s_179_23 (cl : am_C) (ls : am_Ls) (x : Int) (st : List am_V) (h : am_H) : am_go0 cl 179 23 ls (.inl x :: st) h = if x = 0 then am_go0 cl 179 26 ls st h else am_go0 cl 179 30 ls st h := (am_rJ1 am_m179 d_179_23 (by decide) rfl x ls st h).trans (am_ifF ((am_cmp_ne x 0).trans Iff.rfl) _ _)
theorem d_179_26 : am_code 179 26 = some (.iconst (-1), 1) := by decide +kernel
theorem s_179_26 (cl : am_C) (ls : am_Ls) (st : List am_V) (h : am_H) : am_go0 cl 179 26 ls st h = am_go0 cl 179 27 ls (.inl (-1) :: st) h := am_rK am_m179 d_179_26 (by decide) rfl _ _ _
theorem d_179_27 : am_code 179 27 = some (.goto 22, 3) := by decide +kernel
theorem s_179_27 (cl : am_C) (ls : am_Ls) (st : List am_V) (h : am_H) : am_go0 cl 179 27 ls st h = am_go0 cl 179 49 ls st h := am_rGo am_m179 d_179_27 (by decide) _ _ _
theorem d_179_30 : am_code 179 30 = some (.iload_n 2, 1) := by decide +kernel
theorem s_179_30 (cl : am_C) (a0 a1 : Option am_V) (x : Int) (st : List am_V) (h : am_H) : am_go0 cl 179 30 [a0, a1, some (.inl x)] st h = am_go0 cl 179 31 [a0, a1, some (.inl x)] (.inl x :: st) h := am_r am_m179 d_179_30 rfl
theorem d_179_31 : am_code 179 31 = some (.ifCond .ne 12, 3) := by decide +kernel
theorem s_179_31 (cl : am_C) (ls : am_Ls) (x : Int) (st : List am_V) (h : am_H) : am_go0 cl 179 31 ls (.inl x :: st) h = if x = 0 then am_go0 cl 179 34 ls st h else am_go0 cl 179 43 ls st h := (am_rJ1 am_m179 d_179_31 (by decide) rfl x ls st h).trans (am_ifF ((am_cmp_ne x 0).trans Iff.rfl) _ _)
theorem d_179_34 : am_code 179 34 = some (.aload_n 0, 1) := by decide +kernel
theorem s_179_34 (cl : am_C) (a1 a2 : Option am_V) (x : Nat) (st : List am_V) (h : am_H) : am_go0 cl 179 34 [some (.inr (.inr (some x))), a1, a2] st h = am_go0 cl 179 35 [some (.inr (.inr (some x))), a1, a2] (.inr (.inr (some x)) :: st) h := am_r am_m179 d_179_34 rfl
theorem d_179_35 : am_code 179 35 = some (.getfield 145, 3) := by decide +kernel
theorem s_179_35 (cl : am_C) (ls : am_Ls) (st : List am_V) (N : Nat) (I : Nat → Int → Int) (L : Nat → Int → Int64) : am_go0 cl 179 35 ls (.inr (.inr (some 53)) :: st) (am_GS N, am_GR, I, L) = am_go0 cl 179 38 ls (.inr (.inr (some 93)) :: st) (am_GS N, am_GR, I, L) := am_rG2 am_m179 d_179_35 am_f9145 rfl (gs_53 N) (by decide) gr_53_54 rfl
theorem d_179_38 : am_code 179 38 = some (.iload_n 1, 1) := by decide +kernel
theorem s_179_38 (cl : am_C) (a0 a2 : Option am_V) (x : Int) (st : List am_V) (h : am_H) : am_go0 cl 179 38 [a0, some (.inl x), a2] st h = am_go0 cl 179 39 [a0, some (.inl x), a2] (.inl x :: st) h := am_r am_m179 d_179_38 rfl
theorem d_179_39 : am_code 179 39 = some (.iaload, 1) := by decide +kernel
theorem s_179_39 (cl : am_C) (ls : am_Ls) (i : Int) (k : Nat) (st : List am_V) (N : Nat) (I : Nat → Int → Int) (L : Nat → Int → Int64) : am_go0 cl 179 39 ls (.inl i :: .inr (.inr (some k)) :: st) (am_GS N, am_GR, I, L) = if am_inb (am_GS N) k 0 i = true then am_go0 cl 179 40 ls (.inl (I k i) :: st) (am_GS N, am_GR, I, L) else none := am_rA am_m179 d_179_39 (by decide) rfl k ls st i _ _ I L
theorem d_179_40 : am_code 179 40 = some (.goto 9, 3) := by decide +kernel
theorem s_179_40 (cl : am_C) (ls : am_Ls) (st : List am_V) (h : am_H) : am_go0 cl 179 40 ls st h = am_go0 cl 179 49 ls st h := am_rGo am_m179 d_179_40 (by decide) _ _ _
theorem d_179_43 : am_code 179 43 = some (.aload_n 0, 1) := by decide +kernel
theorem s_179_43 (cl : am_C) (a1 a2 : Option am_V) (x : Nat) (st : List am_V) (h : am_H) : am_go0 cl 179 43 [some (.inr (.inr (some x))), a1, a2] st h = am_go0 cl 179 44 [some (.inr (.inr (some x))), a1, a2] (.inr (.inr (some x)) :: st) h := am_r am_m179 d_179_43 rfl
theorem d_179_44 : am_code 179 44 = some (.getfield 148, 3) := by decide +kernel
theorem s_179_44 (cl : am_C) (ls : am_Ls) (st : List am_V) (N : Nat) (I : Nat → Int → Int) (L : Nat → Int → Int64) : am_go0 cl 179 44 ls (.inr (.inr (some 53)) :: st) (am_GS N, am_GR, I, L) = am_go0 cl 179 47 ls (.inr (.inr (some 94)) :: st) (am_GS N, am_GR, I, L) := am_rG2 am_m179 d_179_44 am_f9148 rfl (gs_53 N) (by decide) gr_53_55 rfl
theorem d_179_47 : am_code 179 47 = some (.iload_n 1, 1) := by decide +kernel
theorem s_179_47 (cl : am_C) (a0 a2 : Option am_V) (x : Int) (st : List am_V) (h : am_H) : am_go0 cl 179 47 [a0, some (.inl x), a2] st h = am_go0 cl 179 48 [a0, some (.inl x), a2] (.inl x :: st) h := am_r am_m179 d_179_47 rfl
theorem d_179_48 : am_code 179 48 = some (.iaload, 1) := by decide +kernel
theorem s_179_48 (cl : am_C) (ls : am_Ls) (i : Int) (k : Nat) (st : List am_V) (N : Nat) (I : Nat → Int → Int) (L : Nat → Int → Int64) : am_go0 cl 179 48 ls (.inl i :: .inr (.inr (some k)) :: st) (am_GS N, am_GR, I, L) = if am_inb (am_GS N) k 0 i = true then am_go0 cl 179 49 ls (.inl (I k i) :: st) (am_GS N, am_GR, I, L) else none := am_rA am_m179 d_179_48 (by decide) rfl k ls st i _ _ I L
theorem d_179_49 : am_code 179 49 = some (.ireturn, 1) := by decide +kernel
theorem s_179_49 (cl : am_C) (ls : am_Ls) (x : Int) (h : am_H) : am_go0 cl 179 49 ls [.inl x] h = some (some (.inl x), h) := am_rE am_m179 d_179_49 rfl
theorem e_179 (d : Nat) (t : Nat) (p0 : Int) (p1 : Int) (h : am_H) : am_call (d + 1) 179 [.inr (.inr (some t)), .inl p0, .inl p1] h = am_go0 (am_call d) 179 0 [some (.inr (.inr (some t))), some (.inl p0), some (.inl p1)] [] h := am_callE am_m179 (Nat.le_of_ble_eq_true rfl) rfl
theorem d_180_0 : am_code 180 0 = some (.aload_n 0, 1) := by decide +kernel
theorem s_180_0 (cl : am_C) (a1 a2 : Option am_V) (x : Nat) (st : List am_V) (h : am_H) : am_go0 cl 180 0 [some (.inr (.inr (some x))), a1, a2] st h = am_go0 cl 180 1 [some (.inr (.inr (some x))), a1, a2] (.inr (.inr (some x)) :: st) h := am_r am_m180 d_180_0 rfl
theorem d_180_1 : am_code 180 1 = some (.iload_n 1, 1) := by decide +kernel
theorem s_180_1 (cl : am_C) (a0 a2 : Option am_V) (x : Int) (st : List am_V) (h : am_H) : am_go0 cl 180 1 [a0, some (.inl x), a2] st h = am_go0 cl 180 2 [a0, some (.inl x), a2] (.inl x :: st) h := am_r am_m180 d_180_1 rfl
theorem d_180_2 : am_code 180 2 = some (.invokevirtual 223, 3) := by decide +kernel
theorem s_180_2 (cl : am_C) (ls : am_Ls) (x0 : Int) (N : Nat) (I : Nat → Int → Int) (L : Nat → Int → Int64) : am_go0 cl 180 2 ls [.inl x0, .inr (.inr (some 53))] (am_GS N, am_GR, I, L) = am_bd (cl 164 [.inr (.inr (some 53)), .inl x0] (am_GS N, am_GR, I, L)) (fun v h2 => am_go0 cl 180 5 ls (v.toList ++ []) h2) := am_rV am_m180 d_180_2 am_k9223 rfl am_m164 (gs_53 N) (by decide) (Nat.le_of_ble_eq_true rfl) rfl ls
theorem d_180_5 : am_code 180 5 = some (.ifCond .eq 37, 3) := by decide +kernel
theorem s_180_5 (cl : am_C) (ls : am_Ls) (x : Int) (st : List am_V) (h : am_H) : am_go0 cl 180 5 ls (.inl x :: st) h = if x = 0 then am_go0 cl 180 42 ls st h else am_go0 cl 180 8 ls st h := (am_rJ1 am_m180 d_180_5 (by decide) rfl x ls st h).trans (am_ifT (am_cmp_eq x 0) _ _)
theorem d_180_8 : am_code 180 8 = some (.iload_n 2, 1) := by decide +kernel
theorem s_180_8 (cl : am_C) (a0 a1 : Option am_V) (x : Int) (st : List am_V) (h : am_H) : am_go0 cl 180 8 [a0, a1, some (.inl x)] st h = am_go0 cl 180 9 [a0, a1, some (.inl x)] (.inl x :: st) h := am_r am_m180 d_180_8 rfl
theorem d_180_9 : am_code 180 9 = some (.iconst 0, 1) := by decide +kernel
theorem s_180_9 (cl : am_C) (ls : am_Ls) (st : List am_V) (h : am_H) : am_go0 cl 180 9 ls st h = am_go0 cl 180 10 ls (.inl 0 :: st) h := am_rK am_m180 d_180_9 (by decide) rfl _ _ _
theorem d_180_10 : am_code 180 10 = some (.aload_n 0, 1) := by decide +kernel
theorem s_180_10 (cl : am_C) (a1 a2 : Option am_V) (x : Nat) (st : List am_V) (h : am_H) : am_go0 cl 180 10 [some (.inr (.inr (some x))), a1, a2] st h = am_go0 cl 180 11 [some (.inr (.inr (some x))), a1, a2] (.inr (.inr (some x)) :: st) h := am_r am_m180 d_180_10 rfl
theorem d_180_11 : am_code 180 11 = some (.getfield 35, 3) := by decide +kernel
theorem s_180_11 (cl : am_C) (ls : am_Ls) (st : List am_V) (N : Nat) (I : Nat → Int → Int) (L : Nat → Int → Int64) : am_go0 cl 180 11 ls (.inr (.inr (some 53)) :: st) (am_GS N, am_GR, I, L) = am_go0 cl 180 14 ls (.inr (.inr (some 61)) :: st) (am_GS N, am_GR, I, L) := am_rG2 am_m180 d_180_11 am_f9035 rfl (gs_53 N) (by decide) gr_53_10 rfl
theorem d_180_14 : am_code 180 14 = some (.aload_n 0, 1) := by decide +kernel
theorem s_180_14 (cl : am_C) (a1 a2 : Option am_V) (x : Nat) (st : List am_V) (h : am_H) : am_go0 cl 180 14 [some (.inr (.inr (some x))), a1, a2] st h = am_go0 cl 180 15 [some (.inr (.inr (some x))), a1, a2] (.inr (.inr (some x)) :: st) h := am_r am_m180 d_180_14 rfl
theorem d_180_15 : am_code 180 15 = some (.getfield 84, 3) := by decide +kernel
theorem s_180_15 (cl : am_C) (ls : am_Ls) (st : List am_V) (N : Nat) (I : Nat → Int → Int) (L : Nat → Int → Int64) : am_go0 cl 180 15 ls (.inr (.inr (some 53)) :: st) (am_GS N, am_GR, I, L) = am_go0 cl 180 18 ls (.inr (.inr (some 77)) :: st) (am_GS N, am_GR, I, L) := am_rG2 am_m180 d_180_15 am_f9084 rfl (gs_53 N) (by decide) gr_53_29 rfl
theorem d_180_18 : am_code 180 18 = some (.iload_n 1, 1) := by decide +kernel
theorem s_180_18 (cl : am_C) (a0 a2 : Option am_V) (x : Int) (st : List am_V) (h : am_H) : am_go0 cl 180 18 [a0, some (.inl x), a2] st h = am_go0 cl 180 19 [a0, some (.inl x), a2] (.inl x :: st) h := am_r am_m180 d_180_18 rfl
theorem d_180_19 : am_code 180 19 = some (.iaload, 1) := by decide +kernel
theorem s_180_19 (cl : am_C) (ls : am_Ls) (i : Int) (k : Nat) (st : List am_V) (N : Nat) (I : Nat → Int → Int) (L : Nat → Int → Int64) : am_go0 cl 180 19 ls (.inl i :: .inr (.inr (some k)) :: st) (am_GS N, am_GR, I, L) = if am_inb (am_GS N) k 0 i = true then am_go0 cl 180 20 ls (.inl (I k i) :: st) (am_GS N, am_GR, I, L) else none := am_rA am_m180 d_180_19 (by decide) rfl k ls st i _ _ I L
theorem d_180_20 : am_code 180 20 = some (.iaload, 1) := by decide +kernel
theorem s_180_20 (cl : am_C) (ls : am_Ls) (i : Int) (k : Nat) (st : List am_V) (N : Nat) (I : Nat → Int → Int) (L : Nat → Int → Int64) : am_go0 cl 180 20 ls (.inl i :: .inr (.inr (some k)) :: st) (am_GS N, am_GR, I, L) = if am_inb (am_GS N) k 0 i = true then am_go0 cl 180 21 ls (.inl (I k i) :: st) (am_GS N, am_GR, I, L) else none := am_rA am_m180 d_180_20 (by decide) rfl k ls st i _ _ I L
theorem d_180_21 : am_code 180 21 = some (.iconst 1, 1) := by decide +kernel
theorem s_180_21 (cl : am_C) (ls : am_Ls) (st : List am_V) (h : am_H) : am_go0 cl 180 21 ls st h = am_go0 cl 180 22 ls (.inl 1 :: st) h := am_rK am_m180 d_180_21 (by decide) rfl _ _ _
theorem d_180_22 : am_code 180 22 = some (.isub, 1) := by decide +kernel
theorem s_180_22 (cl : am_C) (ls : am_Ls) (x y : Int) (st : List am_V) (h : am_H) : am_go0 cl 180 22 ls (.inl y :: .inl x :: st) h = am_go0 cl 180 23 ls (.inl (am_wr (x - y)) :: st) h := am_r am_m180 d_180_22 rfl
theorem d_180_23 : am_code 180 23 = some (.invokestatic 151, 3) := by decide +kernel
theorem s_180_23 (cl : am_C) (ls : am_Ls) (x0 : Int) (x1 : Int) (x2 : Int) (h : am_H) : am_go0 cl 180 23 ls [.inl x2, .inl x1, .inl x0] h = am_bd (cl 135 [.inl x0, .inl x1, .inl x2] h) (fun v h2 => am_go0 cl 180 26 ls (v.toList ++ []) h2) := am_rVs am_m180 d_180_23 am_k9151 rfl (Nat.le_of_ble_eq_true rfl) rfl ls
theorem d_180_26 : am_code 180 26 = some (.ifCond .eq 16, 3) := by decide +kernel
theorem s_180_26 (cl : am_C) (ls : am_Ls) (x : Int) (st : List am_V) (h : am_H) : am_go0 cl 180 26 ls (.inl x :: st) h = if x = 0 then am_go0 cl 180 42 ls st h else am_go0 cl 180 29 ls st h := (am_rJ1 am_m180 d_180_26 (by decide) rfl x ls st h).trans (am_ifT (am_cmp_eq x 0) _ _)
theorem d_180_29 : am_code 180 29 = some (.aload_n 0, 1) := by decide +kernel
theorem s_180_29 (cl : am_C) (a1 a2 : Option am_V) (x : Nat) (st : List am_V) (h : am_H) : am_go0 cl 180 29 [some (.inr (.inr (some x))), a1, a2] st h = am_go0 cl 180 30 [some (.inr (.inr (some x))), a1, a2] (.inr (.inr (some x)) :: st) h := am_r am_m180 d_180_29 rfl
theorem d_180_30 : am_code 180 30 = some (.getfield 106, 3) := by decide +kernel
theorem s_180_30 (cl : am_C) (ls : am_Ls) (st : List am_V) (N : Nat) (I : Nat → Int → Int) (L : Nat → Int → Int64) : am_go0 cl 180 30 ls (.inr (.inr (some 53)) :: st) (am_GS N, am_GR, I, L) = am_go0 cl 180 33 ls (.inr (.inr (some 84)) :: st) (am_GS N, am_GR, I, L) := am_rG2 am_m180 d_180_30 am_f9106 rfl (gs_53 N) (by decide) gr_53_36 rfl
theorem d_180_33 : am_code 180 33 = some (.iconst 4, 1) := by decide +kernel
theorem s_180_33 (cl : am_C) (ls : am_Ls) (st : List am_V) (h : am_H) : am_go0 cl 180 33 ls st h = am_go0 cl 180 34 ls (.inl 4 :: st) h := am_rK am_m180 d_180_33 (by decide) rfl _ _ _
theorem d_180_34 : am_code 180 34 = some (.iload_n 1, 1) := by decide +kernel
theorem s_180_34 (cl : am_C) (a0 a2 : Option am_V) (x : Int) (st : List am_V) (h : am_H) : am_go0 cl 180 34 [a0, some (.inl x), a2] st h = am_go0 cl 180 35 [a0, some (.inl x), a2] (.inl x :: st) h := am_r am_m180 d_180_34 rfl
theorem d_180_35 : am_code 180 35 = some (.imul, 1) := by decide +kernel
theorem s_180_35 (cl : am_C) (ls : am_Ls) (x y : Int) (st : List am_V) (h : am_H) : am_go0 cl 180 35 ls (.inl y :: .inl x :: st) h = am_go0 cl 180 36 ls (.inl (am_wr (x * y)) :: st) h := am_r am_m180 d_180_35 rfl
theorem d_180_36 : am_code 180 36 = some (.iload_n 2, 1) := by decide +kernel
theorem s_180_36 (cl : am_C) (a0 a1 : Option am_V) (x : Int) (st : List am_V) (h : am_H) : am_go0 cl 180 36 [a0, a1, some (.inl x)] st h = am_go0 cl 180 37 [a0, a1, some (.inl x)] (.inl x :: st) h := am_r am_m180 d_180_36 rfl
theorem d_180_37 : am_code 180 37 = some (.iadd, 1) := by decide +kernel
theorem s_180_37 (cl : am_C) (ls : am_Ls) (x y : Int) (st : List am_V) (h : am_H) : am_go0 cl 180 37 ls (.inl y :: .inl x :: st) h = am_go0 cl 180 38 ls (.inl (am_wr (x + y)) :: st) h := am_r am_m180 d_180_37 rfl
theorem d_180_38 : am_code 180 38 = some (.iaload, 1) := by decide +kernel
theorem s_180_38 (cl : am_C) (ls : am_Ls) (i : Int) (k : Nat) (st : List am_V) (N : Nat) (I : Nat → Int → Int) (L : Nat → Int → Int64) : am_go0 cl 180 38 ls (.inl i :: .inr (.inr (some k)) :: st) (am_GS N, am_GR, I, L) = if am_inb (am_GS N) k 0 i = true then am_go0 cl 180 39 ls (.inl (I k i) :: st) (am_GS N, am_GR, I, L) else none := am_rA am_m180 d_180_38 (by decide) rfl k ls st i _ _ I L
theorem d_180_39 : am_code 180 39 = some (.goto 5, 3) := by decide +kernel
theorem s_180_39 (cl : am_C) (ls : am_Ls) (st : List am_V) (h : am_H) : am_go0 cl 180 39 ls st h = am_go0 cl 180 44 ls st h := am_rGo am_m180 d_180_39 (by decide) _ _ _
theorem d_180_42 : am_code 180 42 = some (.bipush (-2), 2) := by decide +kernel
theorem s_180_42 (cl : am_C) (ls : am_Ls) (st : List am_V) (h : am_H) : am_go0 cl 180 42 ls st h = am_go0 cl 180 44 ls (.inl (-2) :: st) h := am_rB am_m180 d_180_42 (by decide) rfl _ _ _
theorem d_180_44 : am_code 180 44 = some (.ireturn, 1) := by decide +kernel
theorem s_180_44 (cl : am_C) (ls : am_Ls) (x : Int) (h : am_H) : am_go0 cl 180 44 ls [.inl x] h = some (some (.inl x), h) := am_rE am_m180 d_180_44 rfl
theorem e_180 (d : Nat) (t : Nat) (p0 : Int) (p1 : Int) (h : am_H) : am_call (d + 1) 180 [.inr (.inr (some t)), .inl p0, .inl p1] h = am_go0 (am_call d) 180 0 [some (.inr (.inr (some t))), some (.inl p0), some (.inl p1)] [] h := am_callE am_m180 (Nat.le_of_ble_eq_true rfl) rfl
theorem d_181_0 : am_code 181 0 = some (.iload_n 1, 1) := by decide +kernel
theorem s_181_0 (cl : am_C) (a0 : Option am_V) (x : Int) (st : List am_V) (h : am_H) : am_go0 cl 181 0 [a0, some (.inl x)] st h = am_go0 cl 181 1 [a0, some (.inl x)] (.inl x :: st) h := am_r am_m181 d_181_0 rfl
theorem d_181_1 : am_code 181 1 = some (.tableswitch 78 0 6 #[43, 48, 53, 58, 63, 68, 73], 43) := by decide +kernel
theorem s_181_1 (cl : am_C) (ls : am_Ls) (x : Int) (st : List am_V) (h : am_H) : am_go0 cl 181 1 ls (.inl x :: st) h = if x = 0 then am_go0 cl 181 44 ls st h else if x = 1 then am_go0 cl 181 49 ls st h else if x = 2 then am_go0 cl 181 54 ls st h else if x = 3 then am_go0 cl 181 59 ls st h else if x = 4 then am_go0 cl 181 64 ls st h else if x = 5 then am_go0 cl 181 69 ls st h else if x = 6 then am_go0 cl 181 74 ls st h else am_go0 cl 181 79 ls st h := by
  by_cases q0 : x = 0
  · subst q0; exact (am_rTs (43) am_m181 d_181_1 (by decide +kernel) (by decide) _ _ _).trans (if_pos rfl).symm
  rw [if_neg q0]
  by_cases q1 : x = 1
  · subst q1; exact (am_rTs (48) am_m181 d_181_1 (by decide +kernel) (by decide) _ _ _).trans (if_pos rfl).symm
  rw [if_neg q1]
  by_cases q2 : x = 2
  · subst q2; exact (am_rTs (53) am_m181 d_181_1 (by decide +kernel) (by decide) _ _ _).trans (if_pos rfl).symm
  rw [if_neg q2]
  by_cases q3 : x = 3
  · subst q3; exact (am_rTs (58) am_m181 d_181_1 (by decide +kernel) (by decide) _ _ _).trans (if_pos rfl).symm
  rw [if_neg q3]
  by_cases q4 : x = 4
  · subst q4; exact (am_rTs (63) am_m181 d_181_1 (by decide +kernel) (by decide) _ _ _).trans (if_pos rfl).symm
  rw [if_neg q4]
  by_cases q5 : x = 5
  · subst q5; exact (am_rTs (68) am_m181 d_181_1 (by decide +kernel) (by decide) _ _ _).trans (if_pos rfl).symm
  rw [if_neg q5]
  by_cases q6 : x = 6
  · subst q6; exact (am_rTs (73) am_m181 d_181_1 (by decide +kernel) (by decide) _ _ _).trans (if_pos rfl).symm
  rw [if_neg q6]
  exact am_rTs (78) am_m181 d_181_1 (am_sw_out (by omega)) (by decide) _ _ _
theorem d_181_44 : am_code 181 44 = some (.aload_n 0, 1) := by decide +kernel
theorem s_181_44 (cl : am_C) (a1 : Option am_V) (x : Nat) (st : List am_V) (h : am_H) : am_go0 cl 181 44 [some (.inr (.inr (some x))), a1] st h = am_go0 cl 181 45 [some (.inr (.inr (some x))), a1] (.inr (.inr (some x)) :: st) h := am_r am_m181 d_181_44 rfl
theorem d_181_45 : am_code 181 45 = some (.getfield 155, 3) := by decide +kernel
theorem s_181_45 (cl : am_C) (ls : am_Ls) (st : List am_V) (N : Nat) (I : Nat → Int → Int) (L : Nat → Int → Int64) : am_go0 cl 181 45 ls (.inr (.inr (some 53)) :: st) (am_GS N, am_GR, I, L) = am_go0 cl 181 48 ls (.inl (I 53 0) :: st) (am_GS N, am_GR, I, L) := am_rG0 am_m181 d_181_45 am_f9155 rfl (gs_53 N) (by decide) rfl
theorem d_181_48 : am_code 181 48 = some (.ireturn, 1) := by decide +kernel
theorem s_181_48 (cl : am_C) (ls : am_Ls) (x : Int) (h : am_H) : am_go0 cl 181 48 ls [.inl x] h = some (some (.inl x), h) := am_rE am_m181 d_181_48 rfl
theorem d_181_49 : am_code 181 49 = some (.aload_n 0, 1) := by decide +kernel
theorem s_181_49 (cl : am_C) (a1 : Option am_V) (x : Nat) (st : List am_V) (h : am_H) : am_go0 cl 181 49 [some (.inr (.inr (some x))), a1] st h = am_go0 cl 181 50 [some (.inr (.inr (some x))), a1] (.inr (.inr (some x)) :: st) h := am_r am_m181 d_181_49 rfl
theorem d_181_50 : am_code 181 50 = some (.getfield 13, 3) := by decide +kernel
theorem s_181_50 (cl : am_C) (ls : am_Ls) (st : List am_V) (N : Nat) (I : Nat → Int → Int) (L : Nat → Int → Int64) : am_go0 cl 181 50 ls (.inr (.inr (some 53)) :: st) (am_GS N, am_GR, I, L) = am_go0 cl 181 53 ls (.inl (I 53 2) :: st) (am_GS N, am_GR, I, L) := am_rG0 am_m181 d_181_50 am_f9013 rfl (gs_53 N) (by decide) rfl
theorem d_181_53 : am_code 181 53 = some (.ireturn, 1) := by decide +kernel
theorem s_181_53 (cl : am_C) (ls : am_Ls) (x : Int) (h : am_H) : am_go0 cl 181 53 ls [.inl x] h = some (some (.inl x), h) := am_rE am_m181 d_181_53 rfl
theorem d_181_54 : am_code 181 54 = some (.aload_n 0, 1) := by decide +kernel
theorem s_181_54 (cl : am_C) (a1 : Option am_V) (x : Nat) (st : List am_V) (h : am_H) : am_go0 cl 181 54 [some (.inr (.inr (some x))), a1] st h = am_go0 cl 181 55 [some (.inr (.inr (some x))), a1] (.inr (.inr (some x)) :: st) h := am_r am_m181 d_181_54 rfl
theorem d_181_55 : am_code 181 55 = some (.getfield 166, 3) := by decide +kernel
theorem s_181_55 (cl : am_C) (ls : am_Ls) (st : List am_V) (N : Nat) (I : Nat → Int → Int) (L : Nat → Int → Int64) : am_go0 cl 181 55 ls (.inr (.inr (some 53)) :: st) (am_GS N, am_GR, I, L) = am_go0 cl 181 58 ls (.inl (I 53 9) :: st) (am_GS N, am_GR, I, L) := am_rG0 am_m181 d_181_55 am_f9166 rfl (gs_53 N) (by decide) rfl
theorem d_181_58 : am_code 181 58 = some (.ireturn, 1) := by decide +kernel
theorem s_181_58 (cl : am_C) (ls : am_Ls) (x : Int) (h : am_H) : am_go0 cl 181 58 ls [.inl x] h = some (some (.inl x), h) := am_rE am_m181 d_181_58 rfl
theorem d_181_59 : am_code 181 59 = some (.aload_n 0, 1) := by decide +kernel
theorem s_181_59 (cl : am_C) (a1 : Option am_V) (x : Nat) (st : List am_V) (h : am_H) : am_go0 cl 181 59 [some (.inr (.inr (some x))), a1] st h = am_go0 cl 181 60 [some (.inr (.inr (some x))), a1] (.inr (.inr (some x)) :: st) h := am_r am_m181 d_181_59 rfl
theorem d_181_60 : am_code 181 60 = some (.getfield 169, 3) := by decide +kernel
theorem s_181_60 (cl : am_C) (ls : am_Ls) (st : List am_V) (N : Nat) (I : Nat → Int → Int) (L : Nat → Int → Int64) : am_go0 cl 181 60 ls (.inr (.inr (some 53)) :: st) (am_GS N, am_GR, I, L) = am_go0 cl 181 63 ls (.inl (I 53 14) :: st) (am_GS N, am_GR, I, L) := am_rG0 am_m181 d_181_60 am_f9169 rfl (gs_53 N) (by decide) rfl
theorem d_181_63 : am_code 181 63 = some (.ireturn, 1) := by decide +kernel
theorem s_181_63 (cl : am_C) (ls : am_Ls) (x : Int) (h : am_H) : am_go0 cl 181 63 ls [.inl x] h = some (some (.inl x), h) := am_rE am_m181 d_181_63 rfl
theorem d_181_64 : am_code 181 64 = some (.aload_n 0, 1) := by decide +kernel
theorem s_181_64 (cl : am_C) (a1 : Option am_V) (x : Nat) (st : List am_V) (h : am_H) : am_go0 cl 181 64 [some (.inr (.inr (some x))), a1] st h = am_go0 cl 181 65 [some (.inr (.inr (some x))), a1] (.inr (.inr (some x)) :: st) h := am_r am_m181 d_181_64 rfl
theorem d_181_65 : am_code 181 65 = some (.getfield 189, 3) := by decide +kernel
theorem s_181_65 (cl : am_C) (ls : am_Ls) (st : List am_V) (N : Nat) (I : Nat → Int → Int) (L : Nat → Int → Int64) : am_go0 cl 181 65 ls (.inr (.inr (some 53)) :: st) (am_GS N, am_GR, I, L) = am_go0 cl 181 68 ls (.inl (I 53 21) :: st) (am_GS N, am_GR, I, L) := am_rG0 am_m181 d_181_65 am_f9189 rfl (gs_53 N) (by decide) rfl
theorem d_181_68 : am_code 181 68 = some (.ireturn, 1) := by decide +kernel
theorem s_181_68 (cl : am_C) (ls : am_Ls) (x : Int) (h : am_H) : am_go0 cl 181 68 ls [.inl x] h = some (some (.inl x), h) := am_rE am_m181 d_181_68 rfl
theorem d_181_69 : am_code 181 69 = some (.aload_n 0, 1) := by decide +kernel
theorem s_181_69 (cl : am_C) (a1 : Option am_V) (x : Nat) (st : List am_V) (h : am_H) : am_go0 cl 181 69 [some (.inr (.inr (some x))), a1] st h = am_go0 cl 181 70 [some (.inr (.inr (some x))), a1] (.inr (.inr (some x)) :: st) h := am_r am_m181 d_181_69 rfl
theorem d_181_70 : am_code 181 70 = some (.getfield 172, 3) := by decide +kernel
theorem s_181_70 (cl : am_C) (ls : am_Ls) (st : List am_V) (N : Nat) (I : Nat → Int → Int) (L : Nat → Int → Int64) : am_go0 cl 181 70 ls (.inr (.inr (some 53)) :: st) (am_GS N, am_GR, I, L) = am_go0 cl 181 73 ls (.inl (I 53 28) :: st) (am_GS N, am_GR, I, L) := am_rG0 am_m181 d_181_70 am_f9172 rfl (gs_53 N) (by decide) rfl
theorem d_181_73 : am_code 181 73 = some (.ireturn, 1) := by decide +kernel
theorem s_181_73 (cl : am_C) (ls : am_Ls) (x : Int) (h : am_H) : am_go0 cl 181 73 ls [.inl x] h = some (some (.inl x), h) := am_rE am_m181 d_181_73 rfl
theorem d_181_74 : am_code 181 74 = some (.aload_n 0, 1) := by decide +kernel
theorem s_181_74 (cl : am_C) (a1 : Option am_V) (x : Nat) (st : List am_V) (h : am_H) : am_go0 cl 181 74 [some (.inr (.inr (some x))), a1] st h = am_go0 cl 181 75 [some (.inr (.inr (some x))), a1] (.inr (.inr (some x)) :: st) h := am_r am_m181 d_181_74 rfl
theorem d_181_75 : am_code 181 75 = some (.getfield 266, 3) := by decide +kernel
theorem s_181_75 (cl : am_C) (ls : am_Ls) (st : List am_V) (N : Nat) (I : Nat → Int → Int) (L : Nat → Int → Int64) : am_go0 cl 181 75 ls (.inr (.inr (some 53)) :: st) (am_GS N, am_GR, I, L) = am_go0 cl 181 78 ls (.inl (I 53 53) :: st) (am_GS N, am_GR, I, L) := am_rG0 am_m181 d_181_75 am_f9266 rfl (gs_53 N) (by decide) rfl
theorem d_181_78 : am_code 181 78 = some (.ireturn, 1) := by decide +kernel
theorem s_181_78 (cl : am_C) (ls : am_Ls) (x : Int) (h : am_H) : am_go0 cl 181 78 ls [.inl x] h = some (some (.inl x), h) := am_rE am_m181 d_181_78 rfl
theorem d_181_79 : am_code 181 79 = some (.bipush (-2), 2) := by decide +kernel
theorem s_181_79 (cl : am_C) (ls : am_Ls) (st : List am_V) (h : am_H) : am_go0 cl 181 79 ls st h = am_go0 cl 181 81 ls (.inl (-2) :: st) h := am_rB am_m181 d_181_79 (by decide) rfl _ _ _
theorem d_181_81 : am_code 181 81 = some (.ireturn, 1) := by decide +kernel
theorem s_181_81 (cl : am_C) (ls : am_Ls) (x : Int) (h : am_H) : am_go0 cl 181 81 ls [.inl x] h = some (some (.inl x), h) := am_rE am_m181 d_181_81 rfl
theorem e_181 (d : Nat) (t : Nat) (p0 : Int) (h : am_H) : am_call (d + 1) 181 [.inr (.inr (some t)), .inl p0] h = am_go0 (am_call d) 181 0 [some (.inr (.inr (some t))), some (.inl p0)] [] h := am_callE am_m181 (Nat.le_of_ble_eq_true rfl) rfl
