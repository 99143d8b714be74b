theorem d_59_0 : am_code 59 0 = some (.aload_n 0, 1) := by decide +kernel
theorem s_59_0 (cl : am_C) (x : Nat) (st : List am_V) (h : am_H) : am_go0 cl 59 0 [some (.inr (.inr (some x)))] st h = am_go0 cl 59 1 [some (.inr (.inr (some x)))] (.inr (.inr (some x)) :: st) h := am_r am_m59 d_59_0 rfl
theorem d_59_1 : am_code 59 1 = some (.invokevirtual 33, 3) := by decide +kernel
theorem s_59_1 (cl : am_C) (ls : am_Ls) (N : Nat) (I : Nat → Int → Int) (L : Nat → Int → Int64) : am_go0 cl 59 1 ls [.inr (.inr (some 41))] (am_GS N, am_GR, I, L) = am_bd (cl 60 [.inr (.inr (some 41))] (am_GS N, am_GR, I, L)) (fun v h2 => am_go0 cl 59 4 ls (v.toList ++ []) h2) := am_rV am_m59 d_59_1 am_k4033 rfl am_m60 (gs_41 N) (by decide) (Nat.le_of_ble_eq_true rfl) rfl ls
theorem d_59_4 : am_code 59 4 = some (.aload_n 0, 1) := by decide +kernel
theorem s_59_4 (cl : am_C) (x : Nat) (st : List am_V) (h : am_H) : am_go0 cl 59 4 [some (.inr (.inr (some x)))] st h = am_go0 cl 59 5 [some (.inr (.inr (some x)))] (.inr (.inr (some x)) :: st) h := am_r am_m59 d_59_4 rfl
theorem d_59_5 : am_code 59 5 = some (.bipush (-2), 2) := by decide +kernel
theorem s_59_5 (cl : am_C) (ls : am_Ls) (st : List am_V) (h : am_H) : am_go0 cl 59 5 ls st h = am_go0 cl 59 7 ls (.inl (-2) :: st) h := am_rB am_m59 d_59_5 (by decide) rfl _ _ _
theorem d_59_7 : am_code 59 7 = some (.putfield 9, 3) := by decide +kernel
theorem s_59_7 (cl : am_C) (ls : am_Ls) (v : Int) (st : List am_V) (N : Nat) (I : Nat → Int → Int) (L : Nat → Int → Int64) : am_go0 cl 59 7 ls (.inl v :: .inr (.inr (some 41)) :: st) (am_GS N, am_GR, I, L) = am_go0 cl 59 10 ls st (am_GS N, am_GR, am_uI I 41 0 v, L) := am_rP0 am_m59 d_59_7 am_f4009 rfl (gs_41 N) (by decide) rfl
theorem d_59_10 : am_code 59 10 = some (.return_, 1) := by decide +kernel
theorem s_59_10 (cl : am_C) (ls : am_Ls) (h : am_H) : am_go0 cl 59 10 ls [] h = some (none, h) := am_rE am_m59 d_59_10 rfl
theorem e_59 (d : Nat) (t : Nat) (h : am_H) : am_call (d + 1) 59 [.inr (.inr (some t))] h = am_go0 (am_call d) 59 0 [some (.inr (.inr (some t)))] [] h := am_callE am_m59 (Nat.le_of_ble_eq_true rfl) rfl
theorem d_60_0 : am_code 60 0 = some (.aload_n 0, 1) := by decide +kernel
theorem s_60_0 (cl : am_C) (x : Nat) (st : List am_V) (h : am_H) : am_go0 cl 60 0 [some (.inr (.inr (some x)))] st h = am_go0 cl 60 1 [some (.inr (.inr (some x)))] (.inr (.inr (some x)) :: st) h := am_r am_m60 d_60_0 rfl
theorem d_60_1 : am_code 60 1 = some (.iconst 0, 1) := by decide +kernel
theorem s_60_1 (cl : am_C) (ls : am_Ls) (st : List am_V) (h : am_H) : am_go0 cl 60 1 ls st h = am_go0 cl 60 2 ls (.inl 0 :: st) h := am_rK am_m60 d_60_1 (by decide) rfl _ _ _
theorem d_60_2 : am_code 60 2 = some (.putfield 9, 3) := by decide +kernel
theorem s_60_2 (cl : am_C) (ls : am_Ls) (v : Int) (st : List am_V) (N : Nat) (I : Nat → Int → Int) (L : Nat → Int → Int64) : am_go0 cl 60 2 ls (.inl v :: .inr (.inr (some 41)) :: st) (am_GS N, am_GR, I, L) = am_go0 cl 60 5 ls st (am_GS N, am_GR, am_uI I 41 0 v, L) := am_rP0 am_m60 d_60_2 am_f4009 rfl (gs_41 N) (by decide) rfl
theorem d_60_5 : am_code 60 5 = some (.aload_n 0, 1) := by decide +kernel
theorem s_60_5 (cl : am_C) (x : Nat) (st : List am_V) (h : am_H) : am_go0 cl 60 5 [some (.inr (.inr (some x)))] st h = am_go0 cl 60 6 [some (.inr (.inr (some x)))] (.inr (.inr (some x)) :: st) h := am_r am_m60 d_60_5 rfl
theorem d_60_6 : am_code 60 6 = some (.iconst (-1), 1) := by decide +kernel
theorem s_60_6 (cl : am_C) (ls : am_Ls) (st : List am_V) (h : am_H) : am_go0 cl 60 6 ls st h = am_go0 cl 60 7 ls (.inl (-1) :: st) h := am_rK am_m60 d_60_6 (by decide) rfl _ _ _
theorem d_60_7 : am_code 60 7 = some (.putfield 15, 3) := by decide +kernel
theorem s_60_7 (cl : am_C) (ls : am_Ls) (v : Int) (st : List am_V) (N : Nat) (I : Nat → Int → Int) (L : Nat → Int → Int64) : am_go0 cl 60 7 ls (.inl v :: .inr (.inr (some 41)) :: st) (am_GS N, am_GR, I, L) = am_go0 cl 60 10 ls st (am_GS N, am_GR, am_uI I 41 1 v, L) := am_rP0 am_m60 d_60_7 am_f4015 rfl (gs_41 N) (by decide) rfl
theorem d_60_10 : am_code 60 10 = some (.aload_n 0, 1) := by decide +kernel
theorem s_60_10 (cl : am_C) (x : Nat) (st : List am_V) (h : am_H) : am_go0 cl 60 10 [some (.inr (.inr (some x)))] st h = am_go0 cl 60 11 [some (.inr (.inr (some x)))] (.inr (.inr (some x)) :: st) h := am_r am_m60 d_60_10 rfl
theorem d_60_11 : am_code 60 11 = some (.iconst (-1), 1) := by decide +kernel
theorem s_60_11 (cl : am_C) (ls : am_Ls) (st : List am_V) (h : am_H) : am_go0 cl 60 11 ls st h = am_go0 cl 60 12 ls (.inl (-1) :: st) h := am_rK am_m60 d_60_11 (by decide) rfl _ _ _
theorem d_60_12 : am_code 60 12 = some (.putfield 18, 3) := by decide +kernel
theorem s_60_12 (cl : am_C) (ls : am_Ls) (v : Int) (st : List am_V) (N : Nat) (I : Nat → Int → Int) (L : Nat → Int → Int64) : am_go0 cl 60 12 ls (.inl v :: .inr (.inr (some 41)) :: st) (am_GS N, am_GR, I, L) = am_go0 cl 60 15 ls st (am_GS N, am_GR, am_uI I 41 2 v, L) := am_rP0 am_m60 d_60_12 am_f4018 rfl (gs_41 N) (by decide) rfl
theorem d_60_15 : am_code 60 15 = some (.aload_n 0, 1) := by decide +kernel
theorem s_60_15 (cl : am_C) (x : Nat) (st : List am_V) (h : am_H) : am_go0 cl 60 15 [some (.inr (.inr (some x)))] st h = am_go0 cl 60 16 [some (.inr (.inr (some x)))] (.inr (.inr (some x)) :: st) h := am_r am_m60 d_60_15 rfl
theorem d_60_16 : am_code 60 16 = some (.iconst 0, 1) := by decide +kernel
theorem s_60_16 (cl : am_C) (ls : am_Ls) (st : List am_V) (h : am_H) : am_go0 cl 60 16 ls st h = am_go0 cl 60 17 ls (.inl 0 :: st) h := am_rK am_m60 d_60_16 (by decide) rfl _ _ _
theorem d_60_17 : am_code 60 17 = some (.putfield 30, 3) := by decide +kernel
theorem s_60_17 (cl : am_C) (ls : am_Ls) (v : Int) (st : List am_V) (N : Nat) (I : Nat → Int → Int) (L : Nat → Int → Int64) : am_go0 cl 60 17 ls (.inl v :: .inr (.inr (some 41)) :: st) (am_GS N, am_GR, I, L) = am_go0 cl 60 20 ls st (am_GS N, am_GR, am_uI I 41 5 v, L) := am_rP0 am_m60 d_60_17 am_f4030 rfl (gs_41 N) (by decide) rfl
theorem d_60_20 : am_code 60 20 = some (.return_, 1) := by decide +kernel
theorem s_60_20 (cl : am_C) (ls : am_Ls) (h : am_H) : am_go0 cl 60 20 ls [] h = some (none, h) := am_rE am_m60 d_60_20 rfl
theorem e_60 (d : Nat) (t : Nat) (h : am_H) : am_call (d + 1) 60 [.inr (.inr (some t))] h = am_go0 (am_call d) 60 0 [some (.inr (.inr (some t)))] [] h := am_callE am_m60 (Nat.le_of_ble_eq_true rfl) rfl
theorem d_61_0 : am_code 61 0 = some (.aload_n 0, 1) := by decide +kernel
theorem s_61_0 (cl : am_C) (a1 a2 a3 : Option am_V) (x : Nat) (st : List am_V) (h : am_H) : am_go0 cl 61 0 [some (.inr (.inr (some x))), a1, a2, a3] st h = am_go0 cl 61 1 [some (.inr (.inr (some x))), a1, a2, a3] (.inr (.inr (some x)) :: st) h := am_r am_m61 d_61_0 rfl
theorem d_61_1 : am_code 61 1 = some (.iload_n 1, 1) := by decide +kernel
theorem s_61_1 (cl : am_C) (a0 a2 a3 : Option am_V) (x : Int) (st : List am_V) (h : am_H) : am_go0 cl 61 1 [a0, some (.inl x), a2, a3] st h = am_go0 cl 61 2 [a0, some (.inl x), a2, a3] (.inl x :: st) h := am_r am_m61 d_61_1 rfl
theorem d_61_2 : am_code 61 2 = some (.putfield 9, 3) := by decide +kernel
theorem s_61_2 (cl : am_C) (ls : am_Ls) (v : Int) (st : List am_V) (N : Nat) (I : Nat → Int → Int) (L : Nat → Int → Int64) : am_go0 cl 61 2 ls (.inl v :: .inr (.inr (some 41)) :: st) (am_GS N, am_GR, I, L) = am_go0 cl 61 5 ls st (am_GS N, am_GR, am_uI I 41 0 v, L) := am_rP0 am_m61 d_61_2 am_f4009 rfl (gs_41 N) (by decide) rfl
theorem d_61_5 : am_code 61 5 = some (.aload_n 0, 1) := by decide +kernel
theorem s_61_5 (cl : am_C) (a1 a2 a3 : Option am_V) (x : Nat) (st : List am_V) (h : am_H) : am_go0 cl 61 5 [some (.inr (.inr (some x))), a1, a2, a3] st h = am_go0 cl 61 6 [some (.inr (.inr (some x))), a1, a2, a3] (.inr (.inr (some x)) :: st) h := am_r am_m61 d_61_5 rfl
theorem d_61_6 : am_code 61 6 = some (.iload_n 2, 1) := by decide +kernel
theorem s_61_6 (cl : am_C) (a0 a1 a3 : Option am_V) (x : Int) (st : List am_V) (h : am_H) : am_go0 cl 61 6 [a0, a1, some (.inl x), a3] st h = am_go0 cl 61 7 [a0, a1, some (.inl x), a3] (.inl x :: st) h := am_r am_m61 d_61_6 rfl
theorem d_61_7 : am_code 61 7 = some (.putfield 15, 3) := by decide +kernel
theorem s_61_7 (cl : am_C) (ls : am_Ls) (v : Int) (st : List am_V) (N : Nat) (I : Nat → Int → Int) (L : Nat → Int → Int64) : am_go0 cl 61 7 ls (.inl v :: .inr (.inr (some 41)) :: st) (am_GS N, am_GR, I, L) = am_go0 cl 61 10 ls st (am_GS N, am_GR, am_uI I 41 1 v, L) := am_rP0 am_m61 d_61_7 am_f4015 rfl (gs_41 N) (by decide) rfl
theorem d_61_10 : am_code 61 10 = some (.aload_n 0, 1) := by decide +kernel
theorem s_61_10 (cl : am_C) (a1 a2 a3 : Option am_V) (x : Nat) (st : List am_V) (h : am_H) : am_go0 cl 61 10 [some (.inr (.inr (some x))), a1, a2, a3] st h = am_go0 cl 61 11 [some (.inr (.inr (some x))), a1, a2, a3] (.inr (.inr (some x)) :: st) h := am_r am_m61 d_61_10 rfl
theorem d_61_11 : am_code 61 11 = some (.iload_n 3, 1) := by decide +kernel
theorem s_61_11 (cl : am_C) (a0 a1 a2 : Option am_V) (x : Int) (st : List am_V) (h : am_H) : am_go0 cl 61 11 [a0, a1, a2, some (.inl x)] st h = am_go0 cl 61 12 [a0, a1, a2, some (.inl x)] (.inl x :: st) h := am_r am_m61 d_61_11 rfl
theorem d_61_12 : am_code 61 12 = some (.putfield 18, 3) := by decide +kernel
theorem s_61_12 (cl : am_C) (ls : am_Ls) (v : Int) (st : List am_V) (N : Nat) (I : Nat → Int → Int) (L : Nat → Int → Int64) : am_go0 cl 61 12 ls (.inl v :: .inr (.inr (some 41)) :: st) (am_GS N, am_GR, I, L) = am_go0 cl 61 15 ls st (am_GS N, am_GR, am_uI I 41 2 v, L) := am_rP0 am_m61 d_61_12 am_f4018 rfl (gs_41 N) (by decide) rfl
theorem d_61_15 : am_code 61 15 = some (.return_, 1) := by decide +kernel
theorem s_61_15 (cl : am_C) (ls : am_Ls) (h : am_H) : am_go0 cl 61 15 ls [] h = some (none, h) := am_rE am_m61 d_61_15 rfl
theorem e_61 (d : Nat) (t : Nat) (p0 : Int) (p1 : Int) (p2 : Int) (h : am_H) : am_call (d + 1) 61 [.inr (.inr (some t)), .inl p0, .inl p1, .inl p2] h = am_go0 (am_call d) 61 0 [some (.inr (.inr (some t))), some (.inl p0), some (.inl p1), some (.inl p2)] [] h := am_callE am_m61 (Nat.le_of_ble_eq_true rfl) rfl
theorem d_62_0 : am_code 62 0 = some (.aload_n 0, 1) := by decide +kernel
theorem s_62_0 (cl : am_C) (a1 a2 : Option am_V) (x : Nat) (st : List am_V) (h : am_H) : am_go0 cl 62 0 [some (.inr (.inr (some x))), a1, a2] st h = am_go0 cl 62 1 [some (.inr (.inr (some x))), a1, a2] (.inr (.inr (some x)) :: st) h := am_r am_m62 d_62_0 rfl
theorem d_62_1 : am_code 62 1 = some (.getfield 23, 3) := by decide +kernel
theorem s_62_1 (cl : am_C) (ls : am_Ls) (st : List am_V) (N : Nat) (I : Nat → Int → Int) (L : Nat → Int → Int64) : am_go0 cl 62 1 ls (.inr (.inr (some 41)) :: st) (am_GS N, am_GR, I, L) = am_go0 cl 62 4 ls (.inr (.inr (some 42)) :: st) (am_GS N, am_GR, I, L) := am_rG2 am_m62 d_62_1 am_f4023 rfl (gs_41 N) (by decide) gr_41_3 rfl
theorem d_62_4 : am_code 62 4 = some (.aload_n 0, 1) := by decide +kernel
theorem s_62_4 (cl : am_C) (a1 a2 : Option am_V) (x : Nat) (st : List am_V) (h : am_H) : am_go0 cl 62 4 [some (.inr (.inr (some x))), a1, a2] st h = am_go0 cl 62 5 [some (.inr (.inr (some x))), a1, a2] (.inr (.inr (some x)) :: st) h := am_r am_m62 d_62_4 rfl
theorem d_62_5 : am_code 62 5 = some (.getfield 30, 3) := by decide +kernel
theorem s_62_5 (cl : am_C) (ls : am_Ls) (st : List am_V) (N : Nat) (I : Nat → Int → Int) (L : Nat → Int → Int64) : am_go0 cl 62 5 ls (.inr (.inr (some 41)) :: st) (am_GS N, am_GR, I, L) = am_go0 cl 62 8 ls (.inl (I 41 5) :: st) (am_GS N, am_GR, I, L) := am_rG0 am_m62 d_62_5 am_f4030 rfl (gs_41 N) (by decide) rfl
theorem d_62_8 : am_code 62 8 = some (.iload_n 1, 1) := by decide +kernel
theorem s_62_8 (cl : am_C) (a0 a2 : Option am_V) (x : Int) (st : List am_V) (h : am_H) : am_go0 cl 62 8 [a0, some (.inl x), a2] st h = am_go0 cl 62 9 [a0, some (.inl x), a2] (.inl x :: st) h := am_r am_m62 d_62_8 rfl
theorem d_62_9 : am_code 62 9 = some (.iastore, 1) := by decide +kernel
theorem s_62_9 (cl : am_C) (ls : am_Ls) (i : Int) (v : Int) (k : Nat) (st : List am_V) (N : Nat) (I : Nat → Int → Int) (L : Nat → Int → Int64) : am_go0 cl 62 9 ls (.inl v :: .inl i :: .inr (.inr (some k)) :: st) (am_GS N, am_GR, I, L) = if am_inb (am_GS N) k 0 i = true then am_go0 cl 62 10 ls st (am_GS N, am_GR, am_uI I k i v, L) else none := am_rS am_m62 d_62_9 rfl k ls st i v _ _ I L
theorem d_62_10 : am_code 62 10 = some (.aload_n 0, 1) := by decide +kernel
theorem s_62_10 (cl : am_C) (a1 a2 : Option am_V) (x : Nat) (st : List am_V) (h : am_H) : am_go0 cl 62 10 [some (.inr (.inr (some x))), a1, a2] st h = am_go0 cl 62 11 [some (.inr (.inr (some x))), a1, a2] (.inr (.inr (some x)) :: st) h := am_r am_m62 d_62_10 rfl
theorem d_62_11 : am_code 62 11 = some (.getfield 27, 3) := by decide +kernel
theorem s_62_11 (cl : am_C) (ls : am_Ls) (st : List am_V) (N : Nat) (I : Nat → Int → Int) (L : Nat → Int → Int64) : am_go0 cl 62 11 ls (.inr (.inr (some 41)) :: st) (am_GS N, am_GR, I, L) = am_go0 cl 62 14 ls (.inr (.inr (some 43)) :: st) (am_GS N, am_GR, I, L) := am_rG2 am_m62 d_62_11 am_f4027 rfl (gs_41 N) (by decide) gr_41_4 rfl
theorem d_62_14 : am_code 62 14 = some (.aload_n 0, 1) := by decide +kernel
theorem s_62_14 (cl : am_C) (a1 a2 : Option am_V) (x : Nat) (st : List am_V) (h : am_H) : am_go0 cl 62 14 [some (.inr (.inr (some x))), a1, a2] st h = am_go0 cl 62 15 [some (.inr (.inr (some x))), a1, a2] (.inr (.inr (some x)) :: st) h := am_r am_m62 d_62_14 rfl
theorem d_62_15 : am_code 62 15 = some (.getfield 30, 3) := by decide +kernel
theorem s_62_15 (cl : am_C) (ls : am_Ls) (st : List am_V) (N : Nat) (I : Nat → Int → Int) (L : Nat → Int → Int64) : am_go0 cl 62 15 ls (.inr (.inr (some 41)) :: st) (am_GS N, am_GR, I, L) = am_go0 cl 62 18 ls (.inl (I 41 5) :: st) (am_GS N, am_GR, I, L) := am_rG0 am_m62 d_62_15 am_f4030 rfl (gs_41 N) (by decide) rfl
theorem d_62_18 : am_code 62 18 = some (.iload_n 2, 1) := by decide +kernel
theorem s_62_18 (cl : am_C) (a0 a1 : Option am_V) (x : Int) (st : List am_V) (h : am_H) : am_go0 cl 62 18 [a0, a1, some (.inl x)] st h = am_go0 cl 62 19 [a0, a1, some (.inl x)] (.inl x :: st) h := am_r am_m62 d_62_18 rfl
theorem d_62_19 : am_code 62 19 = some (.iastore, 1) := by decide +kernel
theorem s_62_19 (cl : am_C) (ls : am_Ls) (i : Int) (v : Int) (k : Nat) (st : List am_V) (N : Nat) (I : Nat → Int → Int) (L : Nat → Int → Int64) : am_go0 cl 62 19 ls (.inl v :: .inl i :: .inr (.inr (some k)) :: st) (am_GS N, am_GR, I, L) = if am_inb (am_GS N) k 0 i = true then am_go0 cl 62 20 ls st (am_GS N, am_GR, am_uI I k i v, L) else none := am_rS am_m62 d_62_19 rfl k ls st i v _ _ I L
theorem d_62_20 : am_code 62 20 = some (.aload_n 0, 1) := by decide +kernel
theorem s_62_20 (cl : am_C) (a1 a2 : Option am_V) (x : Nat) (st : List am_V) (h : am_H) : am_go0 cl 62 20 [some (.inr (.inr (some x))), a1, a2] st h = am_go0 cl 62 21 [some (.inr (.inr (some x))), a1, a2] (.inr (.inr (some x)) :: st) h := am_r am_m62 d_62_20 rfl
theorem d_62_21 : am_code 62 21 = some (.dup, 1) := by decide +kernel
theorem s_62_21 (cl : am_C) (ls : am_Ls) (x : Nat) (st : List am_V) (h : am_H) : am_go0 cl 62 21 ls (.inr (.inr (some x)) :: st) h = am_go0 cl 62 22 ls (.inr (.inr (some x)) :: .inr (.inr (some x)) :: st) h := am_r am_m62 d_62_21 rfl
theorem d_62_22 : am_code 62 22 = some (.getfield 30, 3) := by decide +kernel
theorem s_62_22 (cl : am_C) (ls : am_Ls) (st : List am_V) (N : Nat) (I : Nat → Int → Int) (L : Nat → Int → Int64) : am_go0 cl 62 22 ls (.inr (.inr (some 41)) :: st) (am_GS N, am_GR, I, L) = am_go0 cl 62 25 ls (.inl (I 41 5) :: st) (am_GS N, am_GR, I, L) := am_rG0 am_m62 d_62_22 am_f4030 rfl (gs_41 N) (by decide) rfl
theorem d_62_25 : am_code 62 25 = some (.iconst 1, 1) := by decide +kernel
theorem s_62_25 (cl : am_C) (ls : am_Ls) (st : List am_V) (h : am_H) : am_go0 cl 62 25 ls st h = am_go0 cl 62 26 ls (.inl 1 :: st) h := am_rK am_m62 d_62_25 (by decide) rfl _ _ _
theorem d_62_26 : am_code 62 26 = some (.iadd, 1) := by decide +kernel
theorem s_62_26 (cl : am_C) (ls : am_Ls) (x y : Int) (st : List am_V) (h : am_H) : am_go0 cl 62 26 ls (.inl y :: .inl x :: st) h = am_go0 cl 62 27 ls (.inl (am_wr (x + y)) :: st) h := am_r am_m62 d_62_26 rfl
theorem d_62_27 : am_code 62 27 = some (.putfield 30, 3) := by decide +kernel
theorem s_62_27 (cl : am_C) (ls : am_Ls) (v : Int) (st : List am_V) (N : Nat) (I : Nat → Int → Int) (L : Nat → Int → Int64) : am_go0 cl 62 27 ls (.inl v :: .inr (.inr (some 41)) :: st) (am_GS N, am_GR, I, L) = am_go0 cl 62 30 ls st (am_GS N, am_GR, am_uI I 41 5 v, L) := am_rP0 am_m62 d_62_27 am_f4030 rfl (gs_41 N) (by decide) rfl
theorem d_62_30 : am_code 62 30 = some (.return_, 1) := by decide +kernel
theorem s_62_30 (cl : am_C) (ls : am_Ls) (h : am_H) : am_go0 cl 62 30 ls [] h = some (none, h) := am_rE am_m62 d_62_30 rfl
theorem e_62 (d : Nat) (t : Nat) (p0 : Int) (p1 : Int) (h : am_H) : am_call (d + 1) 62 [.inr (.inr (some t)), .inl p0, .inl p1] h = am_go0 (am_call d) 62 0 [some (.inr (.inr (some t))), some (.inl p0), some (.inl p1)] [] h := am_callE am_m62 (Nat.le_of_ble_eq_true rfl) rfl
theorem d_63_0 : am_code 63 0 = some (.aload_n 0, 1) := by decide +kernel
theorem s_63_0 (cl : am_C) (x : Nat) (st : List am_V) (h : am_H) : am_go0 cl 63 0 [some (.inr (.inr (some x)))] st h = am_go0 cl 63 1 [some (.inr (.inr (some x)))] (.inr (.inr (some x)) :: st) h := am_r am_m63 d_63_0 rfl
theorem d_63_1 : am_code 63 1 = some (.getfield 9, 3) := by decide +kernel
theorem s_63_1 (cl : am_C) (ls : am_Ls) (st : List am_V) (N : Nat) (I : Nat → Int → Int) (L : Nat → Int → Int64) : am_go0 cl 63 1 ls (.inr (.inr (some 41)) :: st) (am_GS N, am_GR, I, L) = am_go0 cl 63 4 ls (.inl (I 41 0) :: st) (am_GS N, am_GR, I, L) := am_rG0 am_m63 d_63_1 am_f4009 rfl (gs_41 N) (by decide) rfl
theorem d_63_4 : am_code 63 4 = some (.ireturn, 1) := by decide +kernel
theorem s_63_4 (cl : am_C) (ls : am_Ls) (x : Int) (h : am_H) : am_go0 cl 63 4 ls [.inl x] h = some (some (.inl x), h) := am_rE am_m63 d_63_4 rfl
theorem e_63 (d : Nat) (t : Nat) (h : am_H) : am_call (d + 1) 63 [.inr (.inr (some t))] h = am_go0 (am_call d) 63 0 [some (.inr (.inr (some t)))] [] h := am_callE am_m63 (Nat.le_of_ble_eq_true rfl) rfl
theorem d_64_0 : am_code 64 0 = some (.aload_n 0, 1) := by decide +kernel
theorem s_64_0 (cl : am_C) (x : Nat) (st : List am_V) (h : am_H) : am_go0 cl 64 0 [some (.inr (.inr (some x)))] st h = am_go0 cl 64 1 [some (.inr (.inr (some x)))] (.inr (.inr (some x)) :: st) h := am_r am_m64 d_64_0 rfl
theorem d_64_1 : am_code 64 1 = some (.getfield 15, 3) := by decide +kernel
theorem s_64_1 (cl : am_C) (ls : am_Ls) (st : List am_V) (N : Nat) (I : Nat → Int → Int) (L : Nat → Int → Int64) : am_go0 cl 64 1 ls (.inr (.inr (some 41)) :: st) (am_GS N, am_GR, I, L) = am_go0 cl 64 4 ls (.inl (I 41 1) :: st) (am_GS N, am_GR, I, L) := am_rG0 am_m64 d_64_1 am_f4015 rfl (gs_41 N) (by decide) rfl
theorem d_64_4 : am_code 64 4 = some (.ireturn, 1) := by decide +kernel
theorem s_64_4 (cl : am_C) (ls : am_Ls) (x : Int) (h : am_H) : am_go0 cl 64 4 ls [.inl x] h = some (some (.inl x), h) := am_rE am_m64 d_64_4 rfl
theorem e_64 (d : Nat) (t : Nat) (h : am_H) : am_call (d + 1) 64 [.inr (.inr (some t))] h = am_go0 (am_call d) 64 0 [some (.inr (.inr (some t)))] [] h := am_callE am_m64 (Nat.le_of_ble_eq_true rfl) rfl
theorem d_65_0 : am_code 65 0 = some (.aload_n 0, 1) := by decide +kernel
theorem s_65_0 (cl : am_C) (x : Nat) (st : List am_V) (h : am_H) : am_go0 cl 65 0 [some (.inr (.inr (some x)))] st h = am_go0 cl 65 1 [some (.inr (.inr (some x)))] (.inr (.inr (some x)) :: st) h := am_r am_m65 d_65_0 rfl
theorem d_65_1 : am_code 65 1 = some (.getfield 18, 3) := by decide +kernel
theorem s_65_1 (cl : am_C) (ls : am_Ls) (st : List am_V) (N : Nat) (I : Nat → Int → Int) (L : Nat → Int → Int64) : am_go0 cl 65 1 ls (.inr (.inr (some 41)) :: st) (am_GS N, am_GR, I, L) = am_go0 cl 65 4 ls (.inl (I 41 2) :: st) (am_GS N, am_GR, I, L) := am_rG0 am_m65 d_65_1 am_f4018 rfl (gs_41 N) (by decide) rfl
theorem d_65_4 : am_code 65 4 = some (.ireturn, 1) := by decide +kernel
theorem s_65_4 (cl : am_C) (ls : am_Ls) (x : Int) (h : am_H) : am_go0 cl 65 4 ls [.inl x] h = some (some (.inl x), h) := am_rE am_m65 d_65_4 rfl
theorem e_65 (d : Nat) (t : Nat) (h : am_H) : am_call (d + 1) 65 [.inr (.inr (some t))] h = am_go0 (am_call d) 65 0 [some (.inr (.inr (some t)))] [] h := am_callE am_m65 (Nat.le_of_ble_eq_true rfl) rfl
theorem d_66_0 : am_code 66 0 = some (.iload_n 1, 1) := by decide +kernel
theorem s_66_0 (cl : am_C) (a0 : Option am_V) (x : Int) (st : List am_V) (h : am_H) : am_go0 cl 66 0 [a0, some (.inl x)] st h = am_go0 cl 66 1 [a0, some (.inl x)] (.inl x :: st) h := am_r am_m66 d_66_0 rfl
theorem d_66_1 : am_code 66 1 = some (.ifCond .lt 20, 3) := by decide +kernel
theorem s_66_1 (cl : am_C) (ls : am_Ls) (x : Int) (st : List am_V) (h : am_H) : am_go0 cl 66 1 ls (.inl x :: st) h = if x < 0 then am_go0 cl 66 21 ls st h else am_go0 cl 66 4 ls st h := (am_rJ1 am_m66 d_66_1 (by decide) rfl x ls st h).trans (am_ifT (am_cmp_lt x 0) _ _)
theorem d_66_4 : am_code 66 4 = some (.iload_n 1, 1) := by decide +kernel
theorem s_66_4 (cl : am_C) (a0 : Option am_V) (x : Int) (st : List am_V) (h : am_H) : am_go0 cl 66 4 [a0, some (.inl x)] st h = am_go0 cl 66 5 [a0, some (.inl x)] (.inl x :: st) h := am_r am_m66 d_66_4 rfl
theorem d_66_5 : am_code 66 5 = some (.aload_n 0, 1) := by decide +kernel
theorem s_66_5 (cl : am_C) (a1 : Option am_V) (x : Nat) (st : List am_V) (h : am_H) : am_go0 cl 66 5 [some (.inr (.inr (some x))), a1] st h = am_go0 cl 66 6 [some (.inr (.inr (some x))), a1] (.inr (.inr (some x)) :: st) h := am_r am_m66 d_66_5 rfl
theorem d_66_6 : am_code 66 6 = some (.getfield 30, 3) := by decide +kernel
theorem s_66_6 (cl : am_C) (ls : am_Ls) (st : List am_V) (N : Nat) (I : Nat → Int → Int) (L : Nat → Int → Int64) : am_go0 cl 66 6 ls (.inr (.inr (some 41)) :: st) (am_GS N, am_GR, I, L) = am_go0 cl 66 9 ls (.inl (I 41 5) :: st) (am_GS N, am_GR, I, L) := am_rG0 am_m66 d_66_6 am_f4030 rfl (gs_41 N) (by decide) rfl
theorem d_66_9 : am_code 66 9 = some (.if_icmp .ge 12, 3) := by decide +kernel
theorem s_66_9 (cl : am_C) (ls : am_Ls) (x y : Int) (st : List am_V) (h : am_H) : am_go0 cl 66 9 ls (.inl y :: .inl x :: st) h = if x < y then am_go0 cl 66 12 ls st h else am_go0 cl 66 21 ls st h := (am_rJ0 am_m66 d_66_9 (by decide) rfl x y ls st h).trans (am_ifF ((am_cmp_ge x y).trans Int.not_lt.symm) _ _)
theorem d_66_12 : am_code 66 12 = some (.aload_n 0, 1) := by decide +kernel
theorem s_66_12 (cl : am_C) (a1 : Option am_V) (x : Nat) (st : List am_V) (h : am_H) : am_go0 cl 66 12 [some (.inr (.inr (some x))), a1] st h = am_go0 cl 66 13 [some (.inr (.inr (some x))), a1] (.inr (.inr (some x)) :: st) h := am_r am_m66 d_66_12 rfl
theorem d_66_13 : am_code 66 13 = some (.getfield 23, 3) := by decide +kernel
theorem s_66_13 (cl : am_C) (ls : am_Ls) (st : List am_V) (N : Nat) (I : Nat → Int → Int) (L : Nat → Int → Int64) : am_go0 cl 66 13 ls (.inr (.inr (some 41)) :: st) (am_GS N, am_GR, I, L) = am_go0 cl 66 16 ls (.inr (.inr (some 42)) :: st) (am_GS N, am_GR, I, L) := am_rG2 am_m66 d_66_13 am_f4023 rfl (gs_41 N) (by decide) gr_41_3 rfl
theorem d_66_16 : am_code 66 16 = some (.iload_n 1, 1) := by decide +kernel
theorem s_66_16 (cl : am_C) (a0 : Option am_V) (x : Int) (st : List am_V) (h : am_H) : am_go0 cl 66 16 [a0, some (.inl x)] st h = am_go0 cl 66 17 [a0, some (.inl x)] (.inl x :: st) h := am_r am_m66 d_66_16 rfl
theorem d_66_17 : am_code 66 17 = some (.iaload, 1) := by decide +kernel
theorem s_66_17 (cl : am_C) (ls : am_Ls) (i : Int) (k : Nat) (st : List am_V) (N : Nat) (I : Nat → Int → Int) (L : Nat → Int → Int64) : am_go0 cl 66 17 ls (.inl i :: .inr (.inr (some k)) :: st) (am_GS N, am_GR, I, L) = if am_inb (am_GS N) k 0 i = true then am_go0 cl 66 18 ls (.inl (I k i) :: st) (am_GS N, am_GR, I, L) else none := am_rA am_m66 d_66_17 (by decide) rfl k ls st i _ _ I L
theorem d_66_18 : am_code 66 18 = some (.goto 4, 3) := by decide +kernel
theorem s_66_18 (cl : am_C) (ls : am_Ls) (st : List am_V) (h : am_H) : am_go0 cl 66 18 ls st h = am_go0 cl 66 22 ls st h := am_rGo am_m66 d_66_18 (by decide) _ _ _
theorem d_66_21 : am_code 66 21 = some (.iconst (-1), 1) := by decide +kernel
theorem s_66_21 (cl : am_C) (ls : am_Ls) (st : List am_V) (h : am_H) : am_go0 cl 66 21 ls st h = am_go0 cl 66 22 ls (.inl (-1) :: st) h := am_rK am_m66 d_66_21 (by decide) rfl _ _ _
theorem d_66_22 : am_code 66 22 = some (.ireturn, 1) := by decide +kernel
theorem s_66_22 (cl : am_C) (ls : am_Ls) (x : Int) (h : am_H) : am_go0 cl 66 22 ls [.inl x] h = some (some (.inl x), h) := am_rE am_m66 d_66_22 rfl
theorem e_66 (d : Nat) (t : Nat) (p0 : Int) (h : am_H) : am_call (d + 1) 66 [.inr (.inr (some t)), .inl p0] h = am_go0 (am_call d) 66 0 [some (.inr (.inr (some t))), some (.inl p0)] [] h := am_callE am_m66 (Nat.le_of_ble_eq_true rfl) rfl
theorem d_67_0 : am_code 67 0 = some (.iload_n 1, 1) := by decide +kernel
theorem s_67_0 (cl : am_C) (a0 : Option am_V) (x : Int) (st : List am_V) (h : am_H) : am_go0 cl 67 0 [a0, some (.inl x)] st h = am_go0 cl 67 1 [a0, some (.inl x)] (.inl x :: st) h := am_r am_m67 d_67_0 rfl
theorem d_67_1 : am_code 67 1 = some (.ifCond .lt 20, 3) := by decide +kernel
theorem s_67_1 (cl : am_C) (ls : am_Ls) (x : Int) (st : List am_V) (h : am_H) : am_go0 cl 67 1 ls (.inl x :: st) h = if x < 0 then am_go0 cl 67 21 ls st h else am_go0 cl 67 4 ls st h := (am_rJ1 am_m67 d_67_1 (by decide) rfl x ls st h).trans (am_ifT (am_cmp_lt x 0) _ _)
theorem d_67_4 : am_code 67 4 = some (.iload_n 1, 1) := by decide +kernel
theorem s_67_4 (cl : am_C) (a0 : Option am_V) (x : Int) (st : List am_V) (h : am_H) : am_go0 cl 67 4 [a0, some (.inl x)] st h = am_go0 cl 67 5 [a0, some (.inl x)] (.inl x :: st) h := am_r am_m67 d_67_4 rfl
theorem d_67_5 : am_code 67 5 = some (.aload_n 0, 1) := by decide +kernel
theorem s_67_5 (cl : am_C) (a1 : Option am_V) (x : Nat) (st : List am_V) (h : am_H) : am_go0 cl 67 5 [some (.inr (.inr (some x))), a1] st h = am_go0 cl 67 6 [some (.inr (.inr (some x))), a1] (.inr (.inr (some x)) :: st) h := am_r am_m67 d_67_5 rfl
theorem d_67_6 : am_code 67 6 = some (.getfield 30, 3) := by decide +kernel
theorem s_67_6 (cl : am_C) (ls : am_Ls) (st : List am_V) (N : Nat) (I : Nat → Int → Int) (L : Nat → Int → Int64) : am_go0 cl 67 6 ls (.inr (.inr (some 41)) :: st) (am_GS N, am_GR, I, L) = am_go0 cl 67 9 ls (.inl (I 41 5) :: st) (am_GS N, am_GR, I, L) := am_rG0 am_m67 d_67_6 am_f4030 rfl (gs_41 N) (by decide) rfl
theorem d_67_9 : am_code 67 9 = some (.if_icmp .ge 12, 3) := by decide +kernel
theorem s_67_9 (cl : am_C) (ls : am_Ls) (x y : Int) (st : List am_V) (h : am_H) : am_go0 cl 67 9 ls (.inl y :: .inl x :: st) h = if x < y then am_go0 cl 67 12 ls st h else am_go0 cl 67 21 ls st h := (am_rJ0 am_m67 d_67_9 (by decide) rfl x y ls st h).trans (am_ifF ((am_cmp_ge x y).trans Int.not_lt.symm) _ _)
theorem d_67_12 : am_code 67 12 = some (.aload_n 0, 1) := by decide +kernel
theorem s_67_12 (cl : am_C) (a1 : Option am_V) (x : Nat) (st : List am_V) (h : am_H) : am_go0 cl 67 12 [some (.inr (.inr (some x))), a1] st h = am_go0 cl 67 13 [some (.inr (.inr (some x))), a1] (.inr (.inr (some x)) :: st) h := am_r am_m67 d_67_12 rfl
theorem d_67_13 : am_code 67 13 = some (.getfield 27, 3) := by decide +kernel
theorem s_67_13 (cl : am_C) (ls : am_Ls) (st : List am_V) (N : Nat) (I : Nat → Int → Int) (L : Nat → Int → Int64) : am_go0 cl 67 13 ls (.inr (.inr (some 41)) :: st) (am_GS N, am_GR, I, L) = am_go0 cl 67 16 ls (.inr (.inr (some 43)) :: st) (am_GS N, am_GR, I, L) := am_rG2 am_m67 d_67_13 am_f4027 rfl (gs_41 N) (by decide) gr_41_4 rfl
theorem d_67_16 : am_code 67 16 = some (.iload_n 1, 1) := by decide +kernel
theorem s_67_16 (cl : am_C) (a0 : Option am_V) (x : Int) (st : List am_V) (h : am_H) : am_go0 cl 67 16 [a0, some (.inl x)] st h = am_go0 cl 67 17 [a0, some (.inl x)] (.inl x :: st) h := am_r am_m67 d_67_16 rfl
theorem d_67_17 : am_code 67 17 = some (.iaload, 1) := by decide +kernel
theorem s_67_17 (cl : am_C) (ls : am_Ls) (i : Int) (k : Nat) (st : List am_V) (N : Nat) (I : Nat → Int → Int) (L : Nat → Int → Int64) : am_go0 cl 67 17 ls (.inl i :: .inr (.inr (some k)) :: st) (am_GS N, am_GR, I, L) = if am_inb (am_GS N) k 0 i = true then am_go0 cl 67 18 ls (.inl (I k i) :: st) (am_GS N, am_GR, I, L) else none := am_rA am_m67 d_67_17 (by decide) rfl k ls st i _ _ I L
theorem d_67_18 : am_code 67 18 = some (.goto 4, 3) := by decide +kernel
theorem s_67_18 (cl : am_C) (ls : am_Ls) (st : List am_V) (h : am_H) : am_go0 cl 67 18 ls st h = am_go0 cl 67 22 ls st h := am_rGo am_m67 d_67_18 (by decide) _ _ _
theorem d_67_21 : am_code 67 21 = some (.iconst (-1), 1) := by decide +kernel
theorem s_67_21 (cl : am_C) (ls : am_Ls) (st : List am_V) (h : am_H) : am_go0 cl 67 21 ls st h = am_go0 cl 67 22 ls (.inl (-1) :: st) h := am_rK am_m67 d_67_21 (by decide) rfl _ _ _
theorem d_67_22 : am_code 67 22 = some (.ireturn, 1) := by decide +kernel
theorem s_67_22 (cl : am_C) (ls : am_Ls) (x : Int) (h : am_H) : am_go0 cl 67 22 ls [.inl x] h = some (some (.inl x), h) := am_rE am_m67 d_67_22 rfl
theorem e_67 (d : Nat) (t : Nat) (p0 : Int) (h : am_H) : am_call (d + 1) 67 [.inr (.inr (some t)), .inl p0] h = am_go0 (am_call d) 67 0 [some (.inr (.inr (some t))), some (.inl p0)] [] h := am_callE am_m67 (Nat.le_of_ble_eq_true rfl) rfl
theorem d_68_0 : am_code 68 0 = some (.aload_n 0, 1) := by decide +kernel
theorem s_68_0 (cl : am_C) (x : Nat) (st : List am_V) (h : am_H) : am_go0 cl 68 0 [some (.inr (.inr (some x)))] st h = am_go0 cl 68 1 [some (.inr (.inr (some x)))] (.inr (.inr (some x)) :: st) h := am_r am_m68 d_68_0 rfl
theorem d_68_1 : am_code 68 1 = some (.getfield 30, 3) := by decide +kernel
theorem s_68_1 (cl : am_C) (ls : am_Ls) (st : List am_V) (N : Nat) (I : Nat → Int → Int) (L : Nat → Int → Int64) : am_go0 cl 68 1 ls (.inr (.inr (some 41)) :: st) (am_GS N, am_GR, I, L) = am_go0 cl 68 4 ls (.inl (I 41 5) :: st) (am_GS N, am_GR, I, L) := am_rG0 am_m68 d_68_1 am_f4030 rfl (gs_41 N) (by decide) rfl
theorem d_68_4 : am_code 68 4 = some (.ireturn, 1) := by decide +kernel
theorem s_68_4 (cl : am_C) (ls : am_Ls) (x : Int) (h : am_H) : am_go0 cl 68 4 ls [.inl x] h = some (some (.inl x), h) := am_rE am_m68 d_68_4 rfl
theorem e_68 (d : Nat) (t : Nat) (h : am_H) : am_call (d + 1) 68 [.inr (.inr (some t))] h = am_go0 (am_call d) 68 0 [some (.inr (.inr (some t)))] [] h := am_callE am_m68 (Nat.le_of_ble_eq_true rfl) rfl
