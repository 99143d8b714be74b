theorem d_112_0 : am_code 112 0 = some (.aload_n 0, 1) := by decide +kernel
theorem s_112_0 (cl : am_C) (a1 : Option am_V) (x : Nat) (st : List am_V) (h : am_H) : am_go0 cl 112 0 [some (.inr (.inr (some x))), a1] st h = am_go0 cl 112 1 [some (.inr (.inr (some x))), a1] (.inr (.inr (some x)) :: st) h := am_r am_m112 d_112_0 rfl
theorem d_112_1 : am_code 112 1 = some (.getfield 10, 3) := by decide +kernel
theorem s_112_1 (cl : am_C) (ls : am_Ls) (st : List am_V) (N : Nat) (I : Nat → Int → Int) (L : Nat → Int → Int64) : am_go0 cl 112 1 ls (.inr (.inr (some 1)) :: st) (am_GS N, am_GR, I, L) = am_go0 cl 112 4 ls (.inr (.inr (some 2)) :: st) (am_GS N, am_GR, I, L) := am_rG2 am_m112 d_112_1 am_f8010 rfl (gs_1 N) (by decide) gr_1_0 rfl
theorem d_112_4 : am_code 112 4 = some (.iload_n 1, 1) := by decide +kernel
theorem s_112_4 (cl : am_C) (a0 : Option am_V) (x : Int) (st : List am_V) (h : am_H) : am_go0 cl 112 4 [a0, some (.inl x)] st h = am_go0 cl 112 5 [a0, some (.inl x)] (.inl x :: st) h := am_r am_m112 d_112_4 rfl
theorem d_112_5 : am_code 112 5 = some (.invokevirtual 73, 3) := by decide +kernel
theorem s_112_5 (cl : am_C) (ls : am_Ls) (x0 : Int) (N : Nat) (I : Nat → Int → Int) (L : Nat → Int → Int64) : am_go0 cl 112 5 ls [.inl x0, .inr (.inr (some 2))] (am_GS N, am_GR, I, L) = am_bd (cl 71 [.inr (.inr (some 2)), .inl x0] (am_GS N, am_GR, I, L)) (fun v h2 => am_go0 cl 112 8 ls (v.toList ++ []) h2) := am_rV am_m112 d_112_5 am_k8073 rfl am_m71 (gs_2 N) (by decide) (Nat.le_of_ble_eq_true rfl) rfl ls
theorem d_112_8 : am_code 112 8 = some (.ireturn, 1) := by decide +kernel
theorem s_112_8 (cl : am_C) (ls : am_Ls) (x : Int) (h : am_H) : am_go0 cl 112 8 ls [.inl x] h = some (some (.inl x), h) := am_rE am_m112 d_112_8 rfl
theorem e_112 (d : Nat) (t : Nat) (p0 : Int) (h : am_H) : am_call (d + 1) 112 [.inr (.inr (some t)), .inl p0] h = am_go0 (am_call d) 112 0 [some (.inr (.inr (some t))), some (.inl p0)] [] h := am_callE am_m112 (Nat.le_of_ble_eq_true rfl) rfl
theorem d_113_0 : am_code 113 0 = some (.aload_n 0, 1) := by decide +kernel
theorem s_113_0 (cl : am_C) (a1 a2 a3 : Option am_V) (x : Nat) (st : List am_V) (h : am_H) : am_go0 cl 113 0 [some (.inr (.inr (some x))), a1, a2, a3] st h = am_go0 cl 113 1 [some (.inr (.inr (some x))), a1, a2, a3] (.inr (.inr (some x)) :: st) h := am_r am_m113 d_113_0 rfl
theorem d_113_1 : am_code 113 1 = some (.getfield 10, 3) := by decide +kernel
theorem s_113_1 (cl : am_C) (ls : am_Ls) (st : List am_V) (N : Nat) (I : Nat → Int → Int) (L : Nat → Int → Int64) : am_go0 cl 113 1 ls (.inr (.inr (some 1)) :: st) (am_GS N, am_GR, I, L) = am_go0 cl 113 4 ls (.inr (.inr (some 2)) :: st) (am_GS N, am_GR, I, L) := am_rG2 am_m113 d_113_1 am_f8010 rfl (gs_1 N) (by decide) gr_1_0 rfl
theorem d_113_4 : am_code 113 4 = some (.iload_n 1, 1) := by decide +kernel
theorem s_113_4 (cl : am_C) (a0 a2 a3 : Option am_V) (x : Int) (st : List am_V) (h : am_H) : am_go0 cl 113 4 [a0, some (.inl x), a2, a3] st h = am_go0 cl 113 5 [a0, some (.inl x), a2, a3] (.inl x :: st) h := am_r am_m113 d_113_4 rfl
theorem d_113_5 : am_code 113 5 = some (.iload_n 2, 1) := by decide +kernel
theorem s_113_5 (cl : am_C) (a0 a1 a3 : Option am_V) (x : Int) (st : List am_V) (h : am_H) : am_go0 cl 113 5 [a0, a1, some (.inl x), a3] st h = am_go0 cl 113 6 [a0, a1, some (.inl x), a3] (.inl x :: st) h := am_r am_m113 d_113_5 rfl
theorem d_113_6 : am_code 113 6 = some (.iload_n 3, 1) := by decide +kernel
theorem s_113_6 (cl : am_C) (a0 a1 a2 : Option am_V) (x : Int) (st : List am_V) (h : am_H) : am_go0 cl 113 6 [a0, a1, a2, some (.inl x)] st h = am_go0 cl 113 7 [a0, a1, a2, some (.inl x)] (.inl x :: st) h := am_r am_m113 d_113_6 rfl
theorem d_113_7 : am_code 113 7 = some (.invokevirtual 77, 3) := by decide +kernel
theorem s_113_7 (cl : am_C) (ls : am_Ls) (x0 : Int) (x1 : Int) (x2 : Int) (N : Nat) (I : Nat → Int → Int) (L : Nat → Int → Int64) : am_go0 cl 113 7 ls [.inl x2, .inl x1, .inl x0, .inr (.inr (some 2))] (am_GS N, am_GR, I, L) = am_bd (cl 72 [.inr (.inr (some 2)), .inl x0, .inl x1, .inl x2] (am_GS N, am_GR, I, L)) (fun v h2 => am_go0 cl 113 10 ls (v.toList ++ []) h2) := am_rV am_m113 d_113_7 am_k8077 rfl am_m72 (gs_2 N) (by decide) (Nat.le_of_ble_eq_true rfl) rfl ls
theorem d_113_10 : am_code 113 10 = some (.ireturn, 1) := by decide +kernel
theorem s_113_10 (cl : am_C) (ls : am_Ls) (x : Int) (h : am_H) : am_go0 cl 113 10 ls [.inl x] h = some (some (.inl x), h) := am_rE am_m113 d_113_10 rfl
theorem e_113 (d : Nat) (t : Nat) (p0 : Int) (p1 : Int) (p2 : Int) (h : am_H) : am_call (d + 1) 113 [.inr (.inr (some t)), .inl p0, .inl p1, .inl p2] h = am_go0 (am_call d) 113 0 [some (.inr (.inr (some t))), some (.inl p0), some (.inl p1), some (.inl p2)] [] h := am_callE am_m113 (Nat.le_of_ble_eq_true rfl) rfl
theorem d_114_0 : am_code 114 0 = some (.aload_n 0, 1) := by decide +kernel
theorem s_114_0 (cl : am_C) (a1 : Option am_V) (x : Nat) (st : List am_V) (h : am_H) : am_go0 cl 114 0 [some (.inr (.inr (some x))), a1] st h = am_go0 cl 114 1 [some (.inr (.inr (some x))), a1] (.inr (.inr (some x)) :: st) h := am_r am_m114 d_114_0 rfl
theorem d_114_1 : am_code 114 1 = some (.aload_n 0, 1) := by decide +kernel
theorem s_114_1 (cl : am_C) (a1 : Option am_V) (x : Nat) (st : List am_V) (h : am_H) : am_go0 cl 114 1 [some (.inr (.inr (some x))), a1] st h = am_go0 cl 114 2 [some (.inr (.inr (some x))), a1] (.inr (.inr (some x)) :: st) h := am_r am_m114 d_114_1 rfl
theorem d_114_2 : am_code 114 2 = some (.getfield 19, 3) := by decide +kernel
theorem s_114_2 (cl : am_C) (ls : am_Ls) (st : List am_V) (N : Nat) (I : Nat → Int → Int) (L : Nat → Int → Int64) : am_go0 cl 114 2 ls (.inr (.inr (some 1)) :: st) (am_GS N, am_GR, I, L) = am_go0 cl 114 5 ls (.inr (.inr (some 10)) :: st) (am_GS N, am_GR, I, L) := am_rG2 am_m114 d_114_2 am_f8019 rfl (gs_1 N) (by decide) gr_1_1 rfl
theorem d_114_5 : am_code 114 5 = some (.iload_n 1, 1) := by decide +kernel
theorem s_114_5 (cl : am_C) (a0 : Option am_V) (x : Int) (st : List am_V) (h : am_H) : am_go0 cl 114 5 [a0, some (.inl x)] st h = am_go0 cl 114 6 [a0, some (.inl x)] (.inl x :: st) h := am_r am_m114 d_114_5 rfl
theorem d_114_6 : am_code 114 6 = some (.invokevirtual 81, 3) := by decide +kernel
theorem s_114_6 (cl : am_C) (ls : am_Ls) (x0 : Int) (z0 : Nat) (N : Nat) (I : Nat → Int → Int) (L : Nat → Int → Int64) : am_go0 cl 114 6 ls [.inl x0, .inr (.inr (some 10)), .inr (.inr (some z0))] (am_GS N, am_GR, I, L) = am_bd (cl 1 [.inr (.inr (some 10)), .inl x0] (am_GS N, am_GR, I, L)) (fun v h2 => am_go0 cl 114 9 ls (v.toList ++ [.inr (.inr (some z0))]) h2) := am_rV am_m114 d_114_6 am_k8081 rfl am_m1 (gs_10 N) (by decide) (Nat.le_of_ble_eq_true rfl) rfl ls
theorem d_114_9 : am_code 114 9 = some (.invokevirtual 84, 3) := by decide +kernel
theorem s_114_9 (cl : am_C) (ls : am_Ls) (x0 : Int) (N : Nat) (I : Nat → Int → Int) (L : Nat → Int → Int64) : am_go0 cl 114 9 ls [.inl x0, .inr (.inr (some 1))] (am_GS N, am_GR, I, L) = am_bd (cl 115 [.inr (.inr (some 1)), .inl x0] (am_GS N, am_GR, I, L)) (fun v h2 => am_go0 cl 114 12 ls (v.toList ++ []) h2) := am_rV am_m114 d_114_9 am_k8084 rfl am_m115 (gs_1 N) (by decide) (Nat.le_of_ble_eq_true rfl) rfl ls
theorem d_114_12 : am_code 114 12 = some (.ireturn, 1) := by decide +kernel
theorem s_114_12 (cl : am_C) (ls : am_Ls) (x : Int) (h : am_H) : am_go0 cl 114 12 ls [.inl x] h = some (some (.inl x), h) := am_rE am_m114 d_114_12 rfl
theorem e_114 (d : Nat) (t : Nat) (p0 : Int) (h : am_H) : am_call (d + 1) 114 [.inr (.inr (some t)), .inl p0] h = am_go0 (am_call d) 114 0 [some (.inr (.inr (some t))), some (.inl p0)] [] h := am_callE am_m114 (Nat.le_of_ble_eq_true rfl) rfl
theorem d_115_0 : am_code 115 0 = some (.iload_n 1, 1) := by decide +kernel
theorem s_115_0 (cl : am_C) (a0 : Option am_V) (x : Int) (st : List am_V) (h : am_H) : am_go0 cl 115 0 [a0, some (.inl x)] st h = am_go0 cl 115 1 [a0, some (.inl x)] (.inl x :: st) h := am_r am_m115 d_115_0 rfl
theorem d_115_1 : am_code 115 1 = some (.ifCond .lt 10, 3) := by decide +kernel
theorem s_115_1 (cl : am_C) (ls : am_Ls) (x : Int) (st : List am_V) (h : am_H) : am_go0 cl 115 1 ls (.inl x :: st) h = if x < 0 then am_go0 cl 115 11 ls st h else am_go0 cl 115 4 ls st h := (am_rJ1 am_m115 d_115_1 (by decide) rfl x ls st h).trans (am_ifT (am_cmp_lt x 0) _ _)
theorem d_115_4 : am_code 115 4 = some (.aload_n 0, 1) := by decide +kernel
theorem s_115_4 (cl : am_C) (a1 : Option am_V) (x : Nat) (st : List am_V) (h : am_H) : am_go0 cl 115 4 [some (.inr (.inr (some x))), a1] st h = am_go0 cl 115 5 [some (.inr (.inr (some x))), a1] (.inr (.inr (some x)) :: st) h := am_r am_m115 d_115_4 rfl
theorem d_115_5 : am_code 115 5 = some (.getfield 53, 3) := by decide +kernel
theorem s_115_5 (cl : am_C) (ls : am_Ls) (st : List am_V) (N : Nat) (I : Nat → Int → Int) (L : Nat → Int → Int64) : am_go0 cl 115 5 ls (.inr (.inr (some 1)) :: st) (am_GS N, am_GR, I, L) = am_go0 cl 115 8 ls (.inr (.inr (some 33)) :: st) (am_GS N, am_GR, I, L) := am_rG2 am_m115 d_115_5 am_f8053 rfl (gs_1 N) (by decide) gr_1_5 rfl
theorem d_115_8 : am_code 115 8 = some (.invokevirtual 202, 3) := by decide +kernel
theorem s_115_8 (cl : am_C) (ls : am_Ls) (N : Nat) (I : Nat → Int → Int) (L : Nat → Int → Int64) : am_go0 cl 115 8 ls [.inr (.inr (some 33))] (am_GS N, am_GR, I, L) = am_bd (cl 12 [.inr (.inr (some 33))] (am_GS N, am_GR, I, L)) (fun v h2 => am_go0 cl 115 11 ls (v.toList ++ []) h2) := am_rV am_m115 d_115_8 am_k8202 rfl am_m12 (gs_33 N) (by decide) (Nat.le_of_ble_eq_true rfl) rfl ls
theorem d_115_11 : am_code 115 11 = some (.iload_n 1, 1) := by decide +kernel
theorem s_115_11 (cl : am_C) (a0 : Option am_V) (x : Int) (st : List am_V) (h : am_H) : am_go0 cl 115 11 [a0, some (.inl x)] st h = am_go0 cl 115 12 [a0, some (.inl x)] (.inl x :: st) h := am_r am_m115 d_115_11 rfl
theorem d_115_12 : am_code 115 12 = some (.ireturn, 1) := by decide +kernel
theorem s_115_12 (cl : am_C) (ls : am_Ls) (x : Int) (h : am_H) : am_go0 cl 115 12 ls [.inl x] h = some (some (.inl x), h) := am_rE am_m115 d_115_12 rfl
theorem e_115 (d : Nat) (t : Nat) (p0 : Int) (h : am_H) : am_call (d + 1) 115 [.inr (.inr (some t)), .inl p0] h = am_go0 (am_call d) 115 0 [some (.inr (.inr (some t))), some (.inl p0)] [] h := am_callE am_m115 (Nat.le_of_ble_eq_true rfl) rfl
theorem d_116_0 : am_code 116 0 = some (.aload_n 0, 1) := by decide +kernel
theorem s_116_0 (cl : am_C) (a1 a2 : Option am_V) (x : Nat) (st : List am_V) (h : am_H) : am_go0 cl 116 0 [some (.inr (.inr (some x))), a1, a2] st h = am_go0 cl 116 1 [some (.inr (.inr (some x))), a1, a2] (.inr (.inr (some x)) :: st) h := am_r am_m116 d_116_0 rfl
theorem d_116_1 : am_code 116 1 = some (.aload_n 0, 1) := by decide +kernel
theorem s_116_1 (cl : am_C) (a1 a2 : Option am_V) (x : Nat) (st : List am_V) (h : am_H) : am_go0 cl 116 1 [some (.inr (.inr (some x))), a1, a2] st h = am_go0 cl 116 2 [some (.inr (.inr (some x))), a1, a2] (.inr (.inr (some x)) :: st) h := am_r am_m116 d_116_1 rfl
theorem d_116_2 : am_code 116 2 = some (.getfield 19, 3) := by decide +kernel
theorem s_116_2 (cl : am_C) (ls : am_Ls) (st : List am_V) (N : Nat) (I : Nat → Int → Int) (L : Nat → Int → Int64) : am_go0 cl 116 2 ls (.inr (.inr (some 1)) :: st) (am_GS N, am_GR, I, L) = am_go0 cl 116 5 ls (.inr (.inr (some 10)) :: st) (am_GS N, am_GR, I, L) := am_rG2 am_m116 d_116_2 am_f8019 rfl (gs_1 N) (by decide) gr_1_1 rfl
theorem d_116_5 : am_code 116 5 = some (.iload_n 1, 1) := by decide +kernel
theorem s_116_5 (cl : am_C) (a0 a2 : Option am_V) (x : Int) (st : List am_V) (h : am_H) : am_go0 cl 116 5 [a0, some (.inl x), a2] st h = am_go0 cl 116 6 [a0, some (.inl x), a2] (.inl x :: st) h := am_r am_m116 d_116_5 rfl
theorem d_116_6 : am_code 116 6 = some (.iload_n 2, 1) := by decide +kernel
theorem s_116_6 (cl : am_C) (a0 a1 : Option am_V) (x : Int) (st : List am_V) (h : am_H) : am_go0 cl 116 6 [a0, a1, some (.inl x)] st h = am_go0 cl 116 7 [a0, a1, some (.inl x)] (.inl x :: st) h := am_r am_m116 d_116_6 rfl
theorem d_116_7 : am_code 116 7 = some (.invokevirtual 87, 3) := by decide +kernel
theorem s_116_7 (cl : am_C) (ls : am_Ls) (x0 : Int) (x1 : Int) (z0 : Nat) (N : Nat) (I : Nat → Int → Int) (L : Nat → Int → Int64) : am_go0 cl 116 7 ls [.inl x1, .inl x0, .inr (.inr (some 10)), .inr (.inr (some z0))] (am_GS N, am_GR, I, L) = am_bd (cl 2 [.inr (.inr (some 10)), .inl x0, .inl x1] (am_GS N, am_GR, I, L)) (fun v h2 => am_go0 cl 116 10 ls (v.toList ++ [.inr (.inr (some z0))]) h2) := am_rV am_m116 d_116_7 am_k8087 rfl am_m2 (gs_10 N) (by decide) (Nat.le_of_ble_eq_true rfl) rfl ls
theorem d_116_10 : am_code 116 10 = some (.invokevirtual 84, 3) := by decide +kernel
theorem s_116_10 (cl : am_C) (ls : am_Ls) (x0 : Int) (N : Nat) (I : Nat → Int → Int) (L : Nat → Int → Int64) : am_go0 cl 116 10 ls [.inl x0, .inr (.inr (some 1))] (am_GS N, am_GR, I, L) = am_bd (cl 115 [.inr (.inr (some 1)), .inl x0] (am_GS N, am_GR, I, L)) (fun v h2 => am_go0 cl 116 13 ls (v.toList ++ []) h2) := am_rV am_m116 d_116_10 am_k8084 rfl am_m115 (gs_1 N) (by decide) (Nat.le_of_ble_eq_true rfl) rfl ls
theorem d_116_13 : am_code 116 13 = some (.ireturn, 1) := by decide +kernel
theorem s_116_13 (cl : am_C) (ls : am_Ls) (x : Int) (h : am_H) : am_go0 cl 116 13 ls [.inl x] h = some (some (.inl x), h) := am_rE am_m116 d_116_13 rfl
theorem e_116 (d : Nat) (t : Nat) (p0 : Int) (p1 : Int) (h : am_H) : am_call (d + 1) 116 [.inr (.inr (some t)), .inl p0, .inl p1] h = am_go0 (am_call d) 116 0 [some (.inr (.inr (some t))), some (.inl p0), some (.inl p1)] [] h := am_callE am_m116 (Nat.le_of_ble_eq_true rfl) rfl
theorem d_117_0 : am_code 117 0 = some (.aload_n 0, 1) := by decide +kernel
theorem s_117_0 (cl : am_C) (a1 a2 : Option am_V) (x : Nat) (st : List am_V) (h : am_H) : am_go0 cl 117 0 [some (.inr (.inr (some x))), a1, a2] st h = am_go0 cl 117 1 [some (.inr (.inr (some x))), a1, a2] (.inr (.inr (some x)) :: st) h := am_r am_m117 d_117_0 rfl
theorem d_117_1 : am_code 117 1 = some (.aload_n 0, 1) := by decide +kernel
theorem s_117_1 (cl : am_C) (a1 a2 : Option am_V) (x : Nat) (st : List am_V) (h : am_H) : am_go0 cl 117 1 [some (.inr (.inr (some x))), a1, a2] st h = am_go0 cl 117 2 [some (.inr (.inr (some x))), a1, a2] (.inr (.inr (some x)) :: st) h := am_r am_m117 d_117_1 rfl
theorem d_117_2 : am_code 117 2 = some (.getfield 28, 3) := by decide +kernel
theorem s_117_2 (cl : am_C) (ls : am_Ls) (st : List am_V) (N : Nat) (I : Nat → Int → Int) (L : Nat → Int → Int64) : am_go0 cl 117 2 ls (.inr (.inr (some 1)) :: st) (am_GS N, am_GR, I, L) = am_go0 cl 117 5 ls (.inr (.inr (some 15)) :: st) (am_GS N, am_GR, I, L) := am_rG2 am_m117 d_117_2 am_f8028 rfl (gs_1 N) (by decide) gr_1_2 rfl
theorem d_117_5 : am_code 117 5 = some (.iload_n 1, 1) := by decide +kernel
theorem s_117_5 (cl : am_C) (a0 a2 : Option am_V) (x : Int) (st : List am_V) (h : am_H) : am_go0 cl 117 5 [a0, some (.inl x), a2] st h = am_go0 cl 117 6 [a0, some (.inl x), a2] (.inl x :: st) h := am_r am_m117 d_117_5 rfl
theorem d_117_6 : am_code 117 6 = some (.iload_n 2, 1) := by decide +kernel
theorem s_117_6 (cl : am_C) (a0 a1 : Option am_V) (x : Int) (st : List am_V) (h : am_H) : am_go0 cl 117 6 [a0, a1, some (.inl x)] st h = am_go0 cl 117 7 [a0, a1, some (.inl x)] (.inl x :: st) h := am_r am_m117 d_117_6 rfl
theorem d_117_7 : am_code 117 7 = some (.invokevirtual 91, 3) := by decide +kernel
theorem s_117_7 (cl : am_C) (ls : am_Ls) (x0 : Int) (x1 : Int) (z0 : Nat) (N : Nat) (I : Nat → Int → Int) (L : Nat → Int → Int64) : am_go0 cl 117 7 ls [.inl x1, .inl x0, .inr (.inr (some 15)), .inr (.inr (some z0))] (am_GS N, am_GR, I, L) = am_bd (cl 30 [.inr (.inr (some 15)), .inl x0, .inl x1] (am_GS N, am_GR, I, L)) (fun v h2 => am_go0 cl 117 10 ls (v.toList ++ [.inr (.inr (some z0))]) h2) := am_rV am_m117 d_117_7 am_k8091 rfl am_m30 (gs_15 N) (by decide) (Nat.le_of_ble_eq_true rfl) rfl ls
theorem d_117_10 : am_code 117 10 = some (.invokevirtual 84, 3) := by decide +kernel
theorem s_117_10 (cl : am_C) (ls : am_Ls) (x0 : Int) (N : Nat) (I : Nat → Int → Int) (L : Nat → Int → Int64) : am_go0 cl 117 10 ls [.inl x0, .inr (.inr (some 1))] (am_GS N, am_GR, I, L) = am_bd (cl 115 [.inr (.inr (some 1)), .inl x0] (am_GS N, am_GR, I, L)) (fun v h2 => am_go0 cl 117 13 ls (v.toList ++ []) h2) := am_rV am_m117 d_117_10 am_k8084 rfl am_m115 (gs_1 N) (by decide) (Nat.le_of_ble_eq_true rfl) rfl ls
theorem d_117_13 : am_code 117 13 = some (.ireturn, 1) := by decide +kernel
theorem s_117_13 (cl : am_C) (ls : am_Ls) (x : Int) (h : am_H) : am_go0 cl 117 13 ls [.inl x] h = some (some (.inl x), h) := am_rE am_m117 d_117_13 rfl
theorem e_117 (d : Nat) (t : Nat) (p0 : Int) (p1 : Int) (h : am_H) : am_call (d + 1) 117 [.inr (.inr (some t)), .inl p0, .inl p1] h = am_go0 (am_call d) 117 0 [some (.inr (.inr (some t))), some (.inl p0), some (.inl p1)] [] h := am_callE am_m117 (Nat.le_of_ble_eq_true rfl) rfl
theorem d_118_0 : am_code 118 0 = some (.aload_n 0, 1) := by decide +kernel
theorem s_118_0 (cl : am_C) (a1 a2 a3 : Option am_V) (x : Nat) (st : List am_V) (h : am_H) : am_go0 cl 118 0 [some (.inr (.inr (some x))), a1, a2, a3] st h = am_go0 cl 118 1 [some (.inr (.inr (some x))), a1, a2, a3] (.inr (.inr (some x)) :: st) h := am_r am_m118 d_118_0 rfl
theorem d_118_1 : am_code 118 1 = some (.aload_n 0, 1) := by decide +kernel
theorem s_118_1 (cl : am_C) (a1 a2 a3 : Option am_V) (x : Nat) (st : List am_V) (h : am_H) : am_go0 cl 118 1 [some (.inr (.inr (some x))), a1, a2, a3] st h = am_go0 cl 118 2 [some (.inr (.inr (some x))), a1, a2, a3] (.inr (.inr (some x)) :: st) h := am_r am_m118 d_118_1 rfl
theorem d_118_2 : am_code 118 2 = some (.getfield 28, 3) := by decide +kernel
theorem s_118_2 (cl : am_C) (ls : am_Ls) (st : List am_V) (N : Nat) (I : Nat → Int → Int) (L : Nat → Int → Int64) : am_go0 cl 118 2 ls (.inr (.inr (some 1)) :: st) (am_GS N, am_GR, I, L) = am_go0 cl 118 5 ls (.inr (.inr (some 15)) :: st) (am_GS N, am_GR, I, L) := am_rG2 am_m118 d_118_2 am_f8028 rfl (gs_1 N) (by decide) gr_1_2 rfl
theorem d_118_5 : am_code 118 5 = some (.iload_n 1, 1) := by decide +kernel
theorem s_118_5 (cl : am_C) (a0 a2 a3 : Option am_V) (x : Int) (st : List am_V) (h : am_H) : am_go0 cl 118 5 [a0, some (.inl x), a2, a3] st h = am_go0 cl 118 6 [a0, some (.inl x), a2, a3] (.inl x :: st) h := am_r am_m118 d_118_5 rfl
theorem d_118_6 : am_code 118 6 = some (.iload_n 2, 1) := by decide +kernel
theorem s_118_6 (cl : am_C) (a0 a1 a3 : Option am_V) (x : Int) (st : List am_V) (h : am_H) : am_go0 cl 118 6 [a0, a1, some (.inl x), a3] st h = am_go0 cl 118 7 [a0, a1, some (.inl x), a3] (.inl x :: st) h := am_r am_m118 d_118_6 rfl
theorem d_118_7 : am_code 118 7 = some (.iload_n 3, 1) := by decide +kernel
theorem s_118_7 (cl : am_C) (a0 a1 a2 : Option am_V) (x : Int) (st : List am_V) (h : am_H) : am_go0 cl 118 7 [a0, a1, a2, some (.inl x)] st h = am_go0 cl 118 8 [a0, a1, a2, some (.inl x)] (.inl x :: st) h := am_r am_m118 d_118_7 rfl
theorem d_118_8 : am_code 118 8 = some (.invokevirtual 93, 3) := by decide +kernel
theorem s_118_8 (cl : am_C) (ls : am_Ls) (x0 : Int) (x1 : Int) (x2 : Int) (z0 : Nat) (N : Nat) (I : Nat → Int → Int) (L : Nat → Int → Int64) : am_go0 cl 118 8 ls [.inl x2, .inl x1, .inl x0, .inr (.inr (some 15)), .inr (.inr (some z0))] (am_GS N, am_GR, I, L) = am_bd (cl 32 [.inr (.inr (some 15)), .inl x0, .inl x1, .inl x2] (am_GS N, am_GR, I, L)) (fun v h2 => am_go0 cl 118 11 ls (v.toList ++ [.inr (.inr (some z0))]) h2) := am_rV am_m118 d_118_8 am_k8093 rfl am_m32 (gs_15 N) (by decide) (Nat.le_of_ble_eq_true rfl) rfl ls
theorem d_118_11 : am_code 118 11 = some (.invokevirtual 84, 3) := by decide +kernel
theorem s_118_11 (cl : am_C) (ls : am_Ls) (x0 : Int) (N : Nat) (I : Nat → Int → Int) (L : Nat → Int → Int64) : am_go0 cl 118 11 ls [.inl x0, .inr (.inr (some 1))] (am_GS N, am_GR, I, L) = am_bd (cl 115 [.inr (.inr (some 1)), .inl x0] (am_GS N, am_GR, I, L)) (fun v h2 => am_go0 cl 118 14 ls (v.toList ++ []) h2) := am_rV am_m118 d_118_11 am_k8084 rfl am_m115 (gs_1 N) (by decide) (Nat.le_of_ble_eq_true rfl) rfl ls
theorem d_118_14 : am_code 118 14 = some (.ireturn, 1) := by decide +kernel
theorem s_118_14 (cl : am_C) (ls : am_Ls) (x : Int) (h : am_H) : am_go0 cl 118 14 ls [.inl x] h = some (some (.inl x), h) := am_rE am_m118 d_118_14 rfl
theorem e_118 (d : Nat) (t : Nat) (p0 : Int) (p1 : Int) (p2 : Int) (h : am_H) : am_call (d + 1) 118 [.inr (.inr (some t)), .inl p0, .inl p1, .inl p2] h = am_go0 (am_call d) 118 0 [some (.inr (.inr (some t))), some (.inl p0), some (.inl p1), some (.inl p2)] [] h := am_callE am_m118 (Nat.le_of_ble_eq_true rfl) rfl
theorem d_119_0 : am_code 119 0 = some (.aload_n 0, 1) := by decide +kernel
theorem s_119_0 (cl : am_C) (a1 a2 a3 a4 : Option am_V) (x : Nat) (st : List am_V) (h : am_H) : am_go0 cl 119 0 [some (.inr (.inr (some x))), a1, a2, a3, a4] st h = am_go0 cl 119 1 [some (.inr (.inr (some x))), a1, a2, a3, a4] (.inr (.inr (some x)) :: st) h := am_r am_m119 d_119_0 rfl
theorem d_119_1 : am_code 119 1 = some (.getfield 37, 3) := by decide +kernel
theorem s_119_1 (cl : am_C) (ls : am_Ls) (st : List am_V) (N : Nat) (I : Nat → Int → Int) (L : Nat → Int → Int64) : am_go0 cl 119 1 ls (.inr (.inr (some 1)) :: st) (am_GS N, am_GR, I, L) = am_go0 cl 119 4 ls (.inr (.inr (some 22)) :: st) (am_GS N, am_GR, I, L) := am_rG2 am_m119 d_119_1 am_f8037 rfl (gs_1 N) (by decide) gr_1_3 rfl
theorem d_119_4 : am_code 119 4 = some (.iload_n 1, 1) := by decide +kernel
theorem s_119_4 (cl : am_C) (a0 a2 a3 a4 : Option am_V) (x : Int) (st : List am_V) (h : am_H) : am_go0 cl 119 4 [a0, some (.inl x), a2, a3, a4] st h = am_go0 cl 119 5 [a0, some (.inl x), a2, a3, a4] (.inl x :: st) h := am_r am_m119 d_119_4 rfl
theorem d_119_5 : am_code 119 5 = some (.iload_n 2, 1) := by decide +kernel
theorem s_119_5 (cl : am_C) (a0 a1 a3 a4 : Option am_V) (x : Int) (st : List am_V) (h : am_H) : am_go0 cl 119 5 [a0, a1, some (.inl x), a3, a4] st h = am_go0 cl 119 6 [a0, a1, some (.inl x), a3, a4] (.inl x :: st) h := am_r am_m119 d_119_5 rfl
theorem d_119_6 : am_code 119 6 = some (.iload_n 3, 1) := by decide +kernel
theorem s_119_6 (cl : am_C) (a0 a1 a2 a4 : Option am_V) (x : Int) (st : List am_V) (h : am_H) : am_go0 cl 119 6 [a0, a1, a2, some (.inl x), a4] st h = am_go0 cl 119 7 [a0, a1, a2, some (.inl x), a4] (.inl x :: st) h := am_r am_m119 d_119_6 rfl
theorem d_119_7 : am_code 119 7 = some (.iload 4, 2) := by decide +kernel
theorem s_119_7 (cl : am_C) (a0 a1 a2 a3 : Option am_V) (x : Int) (st : List am_V) (h : am_H) : am_go0 cl 119 7 [a0, a1, a2, a3, some (.inl x)] st h = am_go0 cl 119 9 [a0, a1, a2, a3, some (.inl x)] (.inl x :: st) h := am_r am_m119 d_119_7 rfl
theorem d_119_9 : am_code 119 9 = some (.invokevirtual 96, 3) := by decide +kernel
theorem s_119_9 (cl : am_C) (ls : am_Ls) (x0 : Int) (x1 : Int) (x2 : Int) (x3 : Int) (N : Nat) (I : Nat → Int → Int) (L : Nat → Int → Int64) : am_go0 cl 119 9 ls [.inl x3, .inl x2, .inl x1, .inl x0, .inr (.inr (some 22))] (am_GS N, am_GR, I, L) = am_bd (cl 43 [.inr (.inr (some 22)), .inl x0, .inl x1, .inl x2, .inl x3] (am_GS N, am_GR, I, L)) (fun v h2 => am_go0 cl 119 12 ls (v.toList ++ []) h2) := am_rV am_m119 d_119_9 am_k8096 rfl am_m43 (gs_22 N) (by decide) (Nat.le_of_ble_eq_true rfl) rfl ls
theorem d_119_12 : am_code 119 12 = some (.ireturn, 1) := by decide +kernel
theorem s_119_12 (cl : am_C) (ls : am_Ls) (x : Int) (h : am_H) : am_go0 cl 119 12 ls [.inl x] h = some (some (.inl x), h) := am_rE am_m119 d_119_12 rfl
theorem e_119 (d : Nat) (t : Nat) (p0 : Int) (p1 : Int) (p2 : Int) (p3 : Int) (h : am_H) : am_call (d + 1) 119 [.inr (.inr (some t)), .inl p0, .inl p1, .inl p2, .inl p3] h = am_go0 (am_call d) 119 0 [some (.inr (.inr (some t))), some (.inl p0), some (.inl p1), some (.inl p2), some (.inl p3)] [] h := am_callE am_m119 (Nat.le_of_ble_eq_true rfl) rfl
theorem d_120_0 : am_code 120 0 = some (.aload_n 0, 1) := by decide +kernel
theorem s_120_0 (cl : am_C) (a1 a2 a3 : Option am_V) (x : Nat) (st : List am_V) (h : am_H) : am_go0 cl 120 0 [some (.inr (.inr (some x))), a1, a2, a3] st h = am_go0 cl 120 1 [some (.inr (.inr (some x))), a1, a2, a3] (.inr (.inr (some x)) :: st) h := am_r am_m120 d_120_0 rfl
theorem d_120_1 : am_code 120 1 = some (.getfield 28, 3) := by decide +kernel
theorem s_120_1 (cl : am_C) (ls : am_Ls) (st : List am_V) (N : Nat) (I : Nat → Int → Int) (L : Nat → Int → Int64) : am_go0 cl 120 1 ls (.inr (.inr (some 1)) :: st) (am_GS N, am_GR, I, L) = am_go0 cl 120 4 ls (.inr (.inr (some 15)) :: st) (am_GS N, am_GR, I, L) := am_rG2 am_m120 d_120_1 am_f8028 rfl (gs_1 N) (by decide) gr_1_2 rfl
theorem d_120_4 : am_code 120 4 = some (.iload_n 1, 1) := by decide +kernel
theorem s_120_4 (cl : am_C) (a0 a2 a3 : Option am_V) (x : Int) (st : List am_V) (h : am_H) : am_go0 cl 120 4 [a0, some (.inl x), a2, a3] st h = am_go0 cl 120 5 [a0, some (.inl x), a2, a3] (.inl x :: st) h := am_r am_m120 d_120_4 rfl
theorem d_120_5 : am_code 120 5 = some (.invokevirtual 99, 3) := by decide +kernel
theorem s_120_5 (cl : am_C) (ls : am_Ls) (x0 : Int) (N : Nat) (I : Nat → Int → Int) (L : Nat → Int → Int64) : am_go0 cl 120 5 ls [.inl x0, .inr (.inr (some 15))] (am_GS N, am_GR, I, L) = am_bd (cl 33 [.inr (.inr (some 15)), .inl x0] (am_GS N, am_GR, I, L)) (fun v h2 => am_go0 cl 120 8 ls (v.toList ++ []) h2) := am_rV am_m120 d_120_5 am_k8099 rfl am_m33 (gs_15 N) (by decide) (Nat.le_of_ble_eq_true rfl) rfl ls
theorem d_120_8 : am_code 120 8 = some (.ifCond .eq 22, 3) := by decide +kernel
theorem s_120_8 (cl : am_C) (ls : am_Ls) (x : Int) (st : List am_V) (h : am_H) : am_go0 cl 120 8 ls (.inl x :: st) h = if x = 0 then am_go0 cl 120 30 ls st h else am_go0 cl 120 11 ls st h := (am_rJ1 am_m120 d_120_8 (by decide) rfl x ls st h).trans (am_ifT (am_cmp_eq x 0) _ _)
theorem d_120_11 : am_code 120 11 = some (.aload_n 0, 1) := by decide +kernel
theorem s_120_11 (cl : am_C) (a1 a2 a3 : Option am_V) (x : Nat) (st : List am_V) (h : am_H) : am_go0 cl 120 11 [some (.inr (.inr (some x))), a1, a2, a3] st h = am_go0 cl 120 12 [some (.inr (.inr (some x))), a1, a2, a3] (.inr (.inr (some x)) :: st) h := am_r am_m120 d_120_11 rfl
theorem d_120_12 : am_code 120 12 = some (.getfield 19, 3) := by decide +kernel
theorem s_120_12 (cl : am_C) (ls : am_Ls) (st : List am_V) (N : Nat) (I : Nat → Int → Int) (L : Nat → Int → Int64) : am_go0 cl 120 12 ls (.inr (.inr (some 1)) :: st) (am_GS N, am_GR, I, L) = am_go0 cl 120 15 ls (.inr (.inr (some 10)) :: st) (am_GS N, am_GR, I, L) := am_rG2 am_m120 d_120_12 am_f8019 rfl (gs_1 N) (by decide) gr_1_1 rfl
theorem d_120_15 : am_code 120 15 = some (.aload_n 0, 1) := by decide +kernel
theorem s_120_15 (cl : am_C) (a1 a2 a3 : Option am_V) (x : Nat) (st : List am_V) (h : am_H) : am_go0 cl 120 15 [some (.inr (.inr (some x))), a1, a2, a3] st h = am_go0 cl 120 16 [some (.inr (.inr (some x))), a1, a2, a3] (.inr (.inr (some x)) :: st) h := am_r am_m120 d_120_15 rfl
theorem d_120_16 : am_code 120 16 = some (.getfield 28, 3) := by decide +kernel
theorem s_120_16 (cl : am_C) (ls : am_Ls) (st : List am_V) (N : Nat) (I : Nat → Int → Int) (L : Nat → Int → Int64) : am_go0 cl 120 16 ls (.inr (.inr (some 1)) :: st) (am_GS N, am_GR, I, L) = am_go0 cl 120 19 ls (.inr (.inr (some 15)) :: st) (am_GS N, am_GR, I, L) := am_rG2 am_m120 d_120_16 am_f8028 rfl (gs_1 N) (by decide) gr_1_2 rfl
theorem d_120_19 : am_code 120 19 = some (.iload_n 1, 1) := by decide +kernel
theorem s_120_19 (cl : am_C) (a0 a2 a3 : Option am_V) (x : Int) (st : List am_V) (h : am_H) : am_go0 cl 120 19 [a0, some (.inl x), a2, a3] st h = am_go0 cl 120 20 [a0, some (.inl x), a2, a3] (.inl x :: st) h := am_r am_m120 d_120_19 rfl
theorem d_120_20 : am_code 120 20 = some (.invokevirtual 103, 3) := by decide +kernel
theorem s_120_20 (cl : am_C) (ls : am_Ls) (x0 : Int) (z0 : Nat) (N : Nat) (I : Nat → Int → Int) (L : Nat → Int → Int64) : am_go0 cl 120 20 ls [.inl x0, .inr (.inr (some 15)), .inr (.inr (some z0))] (am_GS N, am_GR, I, L) = am_bd (cl 35 [.inr (.inr (some 15)), .inl x0] (am_GS N, am_GR, I, L)) (fun v h2 => am_go0 cl 120 23 ls (v.toList ++ [.inr (.inr (some z0))]) h2) := am_rV am_m120 d_120_20 am_k8103 rfl am_m35 (gs_15 N) (by decide) (Nat.le_of_ble_eq_true rfl) rfl ls
theorem d_120_23 : am_code 120 23 = some (.iload_n 2, 1) := by decide +kernel
theorem s_120_23 (cl : am_C) (a0 a1 a3 : Option am_V) (x : Int) (st : List am_V) (h : am_H) : am_go0 cl 120 23 [a0, a1, some (.inl x), a3] st h = am_go0 cl 120 24 [a0, a1, some (.inl x), a3] (.inl x :: st) h := am_r am_m120 d_120_23 rfl
theorem d_120_24 : am_code 120 24 = some (.invokevirtual 106, 3) := by decide +kernel
theorem s_120_24 (cl : am_C) (ls : am_Ls) (x0 : Int) (x1 : Int) (N : Nat) (I : Nat → Int → Int) (L : Nat → Int → Int64) : am_go0 cl 120 24 ls [.inl x1, .inl x0, .inr (.inr (some 10))] (am_GS N, am_GR, I, L) = am_bd (cl 6 [.inr (.inr (some 10)), .inl x0, .inl x1] (am_GS N, am_GR, I, L)) (fun v h2 => am_go0 cl 120 27 ls (v.toList ++ []) h2) := am_rV am_m120 d_120_24 am_k8106 rfl am_m6 (gs_10 N) (by decide) (Nat.le_of_ble_eq_true rfl) rfl ls
theorem d_120_27 : am_code 120 27 = some (.ifCond .ne 6, 3) := by decide +kernel
theorem s_120_27 (cl : am_C) (ls : am_Ls) (x : Int) (st : List am_V) (h : am_H) : am_go0 cl 120 27 ls (.inl x :: st) h = if x = 0 then am_go0 cl 120 30 ls st h else am_go0 cl 120 33 ls st h := (am_rJ1 am_m120 d_120_27 (by decide) rfl x ls st h).trans (am_ifF ((am_cmp_ne x 0).trans Iff.rfl) _ _)
theorem d_120_30 : am_code 120 30 = some (.bipush (-2), 2) := by decide +kernel
theorem s_120_30 (cl : am_C) (ls : am_Ls) (st : List am_V) (h : am_H) : am_go0 cl 120 30 ls st h = am_go0 cl 120 32 ls (.inl (-2) :: st) h := am_rB am_m120 d_120_30 (by decide) rfl _ _ _
theorem d_120_32 : am_code 120 32 = some (.ireturn, 1) := by decide +kernel
theorem s_120_32 (cl : am_C) (ls : am_Ls) (x : Int) (h : am_H) : am_go0 cl 120 32 ls [.inl x] h = some (some (.inl x), h) := am_rE am_m120 d_120_32 rfl
theorem d_120_33 : am_code 120 33 = some (.iload_n 3, 1) := by decide +kernel
theorem s_120_33 (cl : am_C) (a0 a1 a2 : Option am_V) (x : Int) (st : List am_V) (h : am_H) : am_go0 cl 120 33 [a0, a1, a2, some (.inl x)] st h = am_go0 cl 120 34 [a0, a1, a2, some (.inl x)] (.inl x :: st) h := am_r am_m120 d_120_33 rfl
theorem d_120_34 : am_code 120 34 = some (.iconst (-1), 1) := by decide +kernel
theorem s_120_34 (cl : am_C) (ls : am_Ls) (st : List am_V) (h : am_H) : am_go0 cl 120 34 ls st h = am_go0 cl 120 35 ls (.inl (-1) :: st) h := am_rK am_m120 d_120_34 (by decide) rfl _ _ _
theorem d_120_35 : am_code 120 35 = some (.if_icmp .eq 18, 3) := by decide +kernel
theorem s_120_35 (cl : am_C) (ls : am_Ls) (x y : Int) (st : List am_V) (h : am_H) : am_go0 cl 120 35 ls (.inl y :: .inl x :: st) h = if x = y then am_go0 cl 120 53 ls st h else am_go0 cl 120 38 ls st h := (am_rJ0 am_m120 d_120_35 (by decide) rfl x y ls st h).trans (am_ifT (am_cmp_eq x y) _ _)
theorem d_120_38 : am_code 120 38 = some (.aload_n 0, 1) := by decide +kernel
theorem s_120_38 (cl : am_C) (a1 a2 a3 : Option am_V) (x : Nat) (st : List am_V) (h : am_H) : am_go0 cl 120 38 [some (.inr (.inr (some x))), a1, a2, a3] st h = am_go0 cl 120 39 [some (.inr (.inr (some x))), a1, a2, a3] (.inr (.inr (some x)) :: st) h := am_r am_m120 d_120_38 rfl
theorem d_120_39 : am_code 120 39 = some (.getfield 37, 3) := by decide +kernel
theorem s_120_39 (cl : am_C) (ls : am_Ls) (st : List am_V) (N : Nat) (I : Nat → Int → Int) (L : Nat → Int → Int64) : am_go0 cl 120 39 ls (.inr (.inr (some 1)) :: st) (am_GS N, am_GR, I, L) = am_go0 cl 120 42 ls (.inr (.inr (some 22)) :: st) (am_GS N, am_GR, I, L) := am_rG2 am_m120 d_120_39 am_f8037 rfl (gs_1 N) (by decide) gr_1_3 rfl
theorem d_120_42 : am_code 120 42 = some (.iload_n 3, 1) := by decide +kernel
theorem s_120_42 (cl : am_C) (a0 a1 a2 : Option am_V) (x : Int) (st : List am_V) (h : am_H) : am_go0 cl 120 42 [a0, a1, a2, some (.inl x)] st h = am_go0 cl 120 43 [a0, a1, a2, some (.inl x)] (.inl x :: st) h := am_r am_m120 d_120_42 rfl
theorem d_120_43 : am_code 120 43 = some (.iload_n 1, 1) := by decide +kernel
theorem s_120_43 (cl : am_C) (a0 a2 a3 : Option am_V) (x : Int) (st : List am_V) (h : am_H) : am_go0 cl 120 43 [a0, some (.inl x), a2, a3] st h = am_go0 cl 120 44 [a0, some (.inl x), a2, a3] (.inl x :: st) h := am_r am_m120 d_120_43 rfl
theorem d_120_44 : am_code 120 44 = some (.invokevirtual 110, 3) := by decide +kernel
theorem s_120_44 (cl : am_C) (ls : am_Ls) (x0 : Int) (x1 : Int) (N : Nat) (I : Nat → Int → Int) (L : Nat → Int → Int64) : am_go0 cl 120 44 ls [.inl x1, .inl x0, .inr (.inr (some 22))] (am_GS N, am_GR, I, L) = am_bd (cl 48 [.inr (.inr (some 22)), .inl x0, .inl x1] (am_GS N, am_GR, I, L)) (fun v h2 => am_go0 cl 120 47 ls (v.toList ++ []) h2) := am_rV am_m120 d_120_44 am_k8110 rfl am_m48 (gs_22 N) (by decide) (Nat.le_of_ble_eq_true rfl) rfl ls
theorem d_120_47 : am_code 120 47 = some (.ifCond .ne 6, 3) := by decide +kernel
theorem s_120_47 (cl : am_C) (ls : am_Ls) (x : Int) (st : List am_V) (h : am_H) : am_go0 cl 120 47 ls (.inl x :: st) h = if x = 0 then am_go0 cl 120 50 ls st h else am_go0 cl 120 53 ls st h := (am_rJ1 am_m120 d_120_47 (by decide) rfl x ls st h).trans (am_ifF ((am_cmp_ne x 0).trans Iff.rfl) _ _)
theorem d_120_50 : am_code 120 50 = some (.bipush (-2), 2) := by decide +kernel
theorem s_120_50 (cl : am_C) (ls : am_Ls) (st : List am_V) (h : am_H) : am_go0 cl 120 50 ls st h = am_go0 cl 120 52 ls (.inl (-2) :: st) h := am_rB am_m120 d_120_50 (by decide) rfl _ _ _
theorem d_120_52 : am_code 120 52 = some (.ireturn, 1) := by decide +kernel
theorem s_120_52 (cl : am_C) (ls : am_Ls) (x : Int) (h : am_H) : am_go0 cl 120 52 ls [.inl x] h = some (some (.inl x), h) := am_rE am_m120 d_120_52 rfl
theorem d_120_53 : am_code 120 53 = some (.aload_n 0, 1) := by decide +kernel
theorem s_120_53 (cl : am_C) (a1 a2 a3 : Option am_V) (x : Nat) (st : List am_V) (h : am_H) : am_go0 cl 120 53 [some (.inr (.inr (some x))), a1, a2, a3] st h = am_go0 cl 120 54 [some (.inr (.inr (some x))), a1, a2, a3] (.inr (.inr (some x)) :: st) h := am_r am_m120 d_120_53 rfl
theorem d_120_54 : am_code 120 54 = some (.getfield 28, 3) := by decide +kernel
theorem s_120_54 (cl : am_C) (ls : am_Ls) (st : List am_V) (N : Nat) (I : Nat → Int → Int) (L : Nat → Int → Int64) : am_go0 cl 120 54 ls (.inr (.inr (some 1)) :: st) (am_GS N, am_GR, I, L) = am_go0 cl 120 57 ls (.inr (.inr (some 15)) :: st) (am_GS N, am_GR, I, L) := am_rG2 am_m120 d_120_54 am_f8028 rfl (gs_1 N) (by decide) gr_1_2 rfl
theorem d_120_57 : am_code 120 57 = some (.iload_n 1, 1) := by decide +kernel
theorem s_120_57 (cl : am_C) (a0 a2 a3 : Option am_V) (x : Int) (st : List am_V) (h : am_H) : am_go0 cl 120 57 [a0, some (.inl x), a2, a3] st h = am_go0 cl 120 58 [a0, some (.inl x), a2, a3] (.inl x :: st) h := am_r am_m120 d_120_57 rfl
theorem d_120_58 : am_code 120 58 = some (.iload_n 2, 1) := by decide +kernel
theorem s_120_58 (cl : am_C) (a0 a1 a3 : Option am_V) (x : Int) (st : List am_V) (h : am_H) : am_go0 cl 120 58 [a0, a1, some (.inl x), a3] st h = am_go0 cl 120 59 [a0, a1, some (.inl x), a3] (.inl x :: st) h := am_r am_m120 d_120_58 rfl
theorem d_120_59 : am_code 120 59 = some (.iload_n 3, 1) := by decide +kernel
theorem s_120_59 (cl : am_C) (a0 a1 a2 : Option am_V) (x : Int) (st : List am_V) (h : am_H) : am_go0 cl 120 59 [a0, a1, a2, some (.inl x)] st h = am_go0 cl 120 60 [a0, a1, a2, some (.inl x)] (.inl x :: st) h := am_r am_m120 d_120_59 rfl
theorem d_120_60 : am_code 120 60 = some (.invokevirtual 113, 3) := by decide +kernel
theorem s_120_60 (cl : am_C) (ls : am_Ls) (x0 : Int) (x1 : Int) (x2 : Int) (N : Nat) (I : Nat → Int → Int) (L : Nat → Int → Int64) : am_go0 cl 120 60 ls [.inl x2, .inl x1, .inl x0, .inr (.inr (some 15))] (am_GS N, am_GR, I, L) = am_bd (cl 38 [.inr (.inr (some 15)), .inl x0, .inl x1, .inl x2] (am_GS N, am_GR, I, L)) (fun v h2 => am_go0 cl 120 63 ls (v.toList ++ []) h2) := am_rV am_m120 d_120_60 am_k8113 rfl am_m38 (gs_15 N) (by decide) (Nat.le_of_ble_eq_true rfl) rfl ls
theorem d_120_63 : am_code 120 63 = some (.aload_n 0, 1) := by decide +kernel
theorem s_120_63 (cl : am_C) (a1 a2 a3 : Option am_V) (x : Nat) (st : List am_V) (h : am_H) : am_go0 cl 120 63 [some (.inr (.inr (some x))), a1, a2, a3] st h = am_go0 cl 120 64 [some (.inr (.inr (some x))), a1, a2, a3] (.inr (.inr (some x)) :: st) h := am_r am_m120 d_120_63 rfl
theorem d_120_64 : am_code 120 64 = some (.iconst 1, 1) := by decide +kernel
theorem s_120_64 (cl : am_C) (ls : am_Ls) (st : List am_V) (h : am_H) : am_go0 cl 120 64 ls st h = am_go0 cl 120 65 ls (.inl 1 :: st) h := am_rK am_m120 d_120_64 (by decide) rfl _ _ _
theorem d_120_65 : am_code 120 65 = some (.invokevirtual 84, 3) := by decide +kernel
theorem s_120_65 (cl : am_C) (ls : am_Ls) (x0 : Int) (N : Nat) (I : Nat → Int → Int) (L : Nat → Int → Int64) : am_go0 cl 120 65 ls [.inl x0, .inr (.inr (some 1))] (am_GS N, am_GR, I, L) = am_bd (cl 115 [.inr (.inr (some 1)), .inl x0] (am_GS N, am_GR, I, L)) (fun v h2 => am_go0 cl 120 68 ls (v.toList ++ []) h2) := am_rV am_m120 d_120_65 am_k8084 rfl am_m115 (gs_1 N) (by decide) (Nat.le_of_ble_eq_true rfl) rfl ls
theorem d_120_68 : am_code 120 68 = some (.ireturn, 1) := by decide +kernel
theorem s_120_68 (cl : am_C) (ls : am_Ls) (x : Int) (h : am_H) : am_go0 cl 120 68 ls [.inl x] h = some (some (.inl x), h) := am_rE am_m120 d_120_68 rfl
theorem e_120 (d : Nat) (t : Nat) (p0 : Int) (p1 : Int) (p2 : Int) (h : am_H) : am_call (d + 1) 120 [.inr (.inr (some t)), .inl p0, .inl p1, .inl p2] h = am_go0 (am_call d) 120 0 [some (.inr (.inr (some t))), some (.inl p0), some (.inl p1), some (.inl p2)] [] h := am_callE am_m120 (Nat.le_of_ble_eq_true rfl) rfl
theorem d_121_0 : am_code 121 0 = some (.aload_n 0, 1) := by decide +kernel
theorem s_121_0 (cl : am_C) (a1 a2 a3 : Option am_V) (x : Nat) (st : List am_V) (h : am_H) : am_go0 cl 121 0 [some (.inr (.inr (some x))), a1, a2, a3] st h = am_go0 cl 121 1 [some (.inr (.inr (some x))), a1, a2, a3] (.inr (.inr (some x)) :: st) h := am_r am_m121 d_121_0 rfl
theorem d_121_1 : am_code 121 1 = some (.getfield 19, 3) := by decide +kernel
theorem s_121_1 (cl : am_C) (ls : am_Ls) (st : List am_V) (N : Nat) (I : Nat → Int → Int) (L : Nat → Int → Int64) : am_go0 cl 121 1 ls (.inr (.inr (some 1)) :: st) (am_GS N, am_GR, I, L) = am_go0 cl 121 4 ls (.inr (.inr (some 10)) :: st) (am_GS N, am_GR, I, L) := am_rG2 am_m121 d_121_1 am_f8019 rfl (gs_1 N) (by decide) gr_1_1 rfl
theorem d_121_4 : am_code 121 4 = some (.iload_n 1, 1) := by decide +kernel
theorem s_121_4 (cl : am_C) (a0 a2 a3 : Option am_V) (x : Int) (st : List am_V) (h : am_H) : am_go0 cl 121 4 [a0, some (.inl x), a2, a3] st h = am_go0 cl 121 5 [a0, some (.inl x), a2, a3] (.inl x :: st) h := am_r am_m121 d_121_4 rfl
theorem d_121_5 : am_code 121 5 = some (.iload_n 2, 1) := by decide +kernel
theorem s_121_5 (cl : am_C) (a0 a1 a3 : Option am_V) (x : Int) (st : List am_V) (h : am_H) : am_go0 cl 121 5 [a0, a1, some (.inl x), a3] st h = am_go0 cl 121 6 [a0, a1, some (.inl x), a3] (.inl x :: st) h := am_r am_m121 d_121_5 rfl
theorem d_121_6 : am_code 121 6 = some (.invokevirtual 106, 3) := by decide +kernel
theorem s_121_6 (cl : am_C) (ls : am_Ls) (x0 : Int) (x1 : Int) (N : Nat) (I : Nat → Int → Int) (L : Nat → Int → Int64) : am_go0 cl 121 6 ls [.inl x1, .inl x0, .inr (.inr (some 10))] (am_GS N, am_GR, I, L) = am_bd (cl 6 [.inr (.inr (some 10)), .inl x0, .inl x1] (am_GS N, am_GR, I, L)) (fun v h2 => am_go0 cl 121 9 ls (v.toList ++ []) h2) := am_rV am_m121 d_121_6 am_k8106 rfl am_m6 (gs_10 N) (by decide) (Nat.le_of_ble_eq_true rfl) rfl ls
theorem d_121_9 : am_code 121 9 = some (.ifCond .ne 6, 3) := by decide +kernel
theorem s_121_9 (cl : am_C) (ls : am_Ls) (x : Int) (st : List am_V) (h : am_H) : am_go0 cl 121 9 ls (.inl x :: st) h = if x = 0 then am_go0 cl 121 12 ls st h else am_go0 cl 121 15 ls st h := (am_rJ1 am_m121 d_121_9 (by decide) rfl x ls st h).trans (am_ifF ((am_cmp_ne x 0).trans Iff.rfl) _ _)
theorem d_121_12 : am_code 121 12 = some (.bipush (-2), 2) := by decide +kernel
theorem s_121_12 (cl : am_C) (ls : am_Ls) (st : List am_V) (h : am_H) : am_go0 cl 121 12 ls st h = am_go0 cl 121 14 ls (.inl (-2) :: st) h := am_rB am_m121 d_121_12 (by decide) rfl _ _ _
theorem d_121_14 : am_code 121 14 = some (.ireturn, 1) := by decide +kernel
theorem s_121_14 (cl : am_C) (ls : am_Ls) (x : Int) (h : am_H) : am_go0 cl 121 14 ls [.inl x] h = some (some (.inl x), h) := am_rE am_m121 d_121_14 rfl
theorem d_121_15 : am_code 121 15 = some (.iload_n 3, 1) := by decide +kernel
theorem s_121_15 (cl : am_C) (a0 a1 a2 : Option am_V) (x : Int) (st : List am_V) (h : am_H) : am_go0 cl 121 15 [a0, a1, a2, some (.inl x)] st h = am_go0 cl 121 16 [a0, a1, a2, some (.inl x)] (.inl x :: st) h := am_r am_m121 d_121_15 rfl
theorem d_121_16 : am_code 121 16 = some (.iconst (-1), 1) := by decide +kernel
theorem s_121_16 (cl : am_C) (ls : am_Ls) (st : List am_V) (h : am_H) : am_go0 cl 121 16 ls st h = am_go0 cl 121 17 ls (.inl (-1) :: st) h := am_rK am_m121 d_121_16 (by decide) rfl _ _ _
theorem d_121_17 : am_code 121 17 = some (.if_icmp .eq 18, 3) := by decide +kernel
theorem s_121_17 (cl : am_C) (ls : am_Ls) (x y : Int) (st : List am_V) (h : am_H) : am_go0 cl 121 17 ls (.inl y :: .inl x :: st) h = if x = y then am_go0 cl 121 35 ls st h else am_go0 cl 121 20 ls st h := (am_rJ0 am_m121 d_121_17 (by decide) rfl x y ls st h).trans (am_ifT (am_cmp_eq x y) _ _)
theorem d_121_20 : am_code 121 20 = some (.aload_n 0, 1) := by decide +kernel
theorem s_121_20 (cl : am_C) (a1 a2 a3 : Option am_V) (x : Nat) (st : List am_V) (h : am_H) : am_go0 cl 121 20 [some (.inr (.inr (some x))), a1, a2, a3] st h = am_go0 cl 121 21 [some (.inr (.inr (some x))), a1, a2, a3] (.inr (.inr (some x)) :: st) h := am_r am_m121 d_121_20 rfl
theorem d_121_21 : am_code 121 21 = some (.getfield 37, 3) := by decide +kernel
theorem s_121_21 (cl : am_C) (ls : am_Ls) (st : List am_V) (N : Nat) (I : Nat → Int → Int) (L : Nat → Int → Int64) : am_go0 cl 121 21 ls (.inr (.inr (some 1)) :: st) (am_GS N, am_GR, I, L) = am_go0 cl 121 24 ls (.inr (.inr (some 22)) :: st) (am_GS N, am_GR, I, L) := am_rG2 am_m121 d_121_21 am_f8037 rfl (gs_1 N) (by decide) gr_1_3 rfl
theorem d_121_24 : am_code 121 24 = some (.iload_n 3, 1) := by decide +kernel
theorem s_121_24 (cl : am_C) (a0 a1 a2 : Option am_V) (x : Int) (st : List am_V) (h : am_H) : am_go0 cl 121 24 [a0, a1, a2, some (.inl x)] st h = am_go0 cl 121 25 [a0, a1, a2, some (.inl x)] (.inl x :: st) h := am_r am_m121 d_121_24 rfl
theorem d_121_25 : am_code 121 25 = some (.iload_n 1, 1) := by decide +kernel
theorem s_121_25 (cl : am_C) (a0 a2 a3 : Option am_V) (x : Int) (st : List am_V) (h : am_H) : am_go0 cl 121 25 [a0, some (.inl x), a2, a3] st h = am_go0 cl 121 26 [a0, some (.inl x), a2, a3] (.inl x :: st) h := am_r am_m121 d_121_25 rfl
theorem d_121_26 : am_code 121 26 = some (.invokevirtual 117, 3) := by decide +kernel
theorem s_121_26 (cl : am_C) (ls : am_Ls) (x0 : Int) (x1 : Int) (N : Nat) (I : Nat → Int → Int) (L : Nat → Int → Int64) : am_go0 cl 121 26 ls [.inl x1, .inl x0, .inr (.inr (some 22))] (am_GS N, am_GR, I, L) = am_bd (cl 52 [.inr (.inr (some 22)), .inl x0, .inl x1] (am_GS N, am_GR, I, L)) (fun v h2 => am_go0 cl 121 29 ls (v.toList ++ []) h2) := am_rV am_m121 d_121_26 am_k8117 rfl am_m52 (gs_22 N) (by decide) (Nat.le_of_ble_eq_true rfl) rfl ls
theorem d_121_29 : am_code 121 29 = some (.ifCond .ne 6, 3) := by decide +kernel
theorem s_121_29 (cl : am_C) (ls : am_Ls) (x : Int) (st : List am_V) (h : am_H) : am_go0 cl 121 29 ls (.inl x :: st) h = if x = 0 then am_go0 cl 121 32 ls st h else am_go0 cl 121 35 ls st h := (am_rJ1 am_m121 d_121_29 (by decide) rfl x ls st h).trans (am_ifF ((am_cmp_ne x 0).trans Iff.rfl) _ _)
theorem d_121_32 : am_code 121 32 = some (.bipush (-2), 2) := by decide +kernel
theorem s_121_32 (cl : am_C) (ls : am_Ls) (st : List am_V) (h : am_H) : am_go0 cl 121 32 ls st h = am_go0 cl 121 34 ls (.inl (-2) :: st) h := am_rB am_m121 d_121_32 (by decide) rfl _ _ _
theorem d_121_34 : am_code 121 34 = some (.ireturn, 1) := by decide +kernel
theorem s_121_34 (cl : am_C) (ls : am_Ls) (x : Int) (h : am_H) : am_go0 cl 121 34 ls [.inl x] h = some (some (.inl x), h) := am_rE am_m121 d_121_34 rfl
theorem d_121_35 : am_code 121 35 = some (.aload_n 0, 1) := by decide +kernel
theorem s_121_35 (cl : am_C) (a1 a2 a3 : Option am_V) (x : Nat) (st : List am_V) (h : am_H) : am_go0 cl 121 35 [some (.inr (.inr (some x))), a1, a2, a3] st h = am_go0 cl 121 36 [some (.inr (.inr (some x))), a1, a2, a3] (.inr (.inr (some x)) :: st) h := am_r am_m121 d_121_35 rfl
theorem d_121_36 : am_code 121 36 = some (.getfield 19, 3) := by decide +kernel
theorem s_121_36 (cl : am_C) (ls : am_Ls) (st : List am_V) (N : Nat) (I : Nat → Int → Int) (L : Nat → Int → Int64) : am_go0 cl 121 36 ls (.inr (.inr (some 1)) :: st) (am_GS N, am_GR, I, L) = am_go0 cl 121 39 ls (.inr (.inr (some 10)) :: st) (am_GS N, am_GR, I, L) := am_rG2 am_m121 d_121_36 am_f8019 rfl (gs_1 N) (by decide) gr_1_1 rfl
theorem d_121_39 : am_code 121 39 = some (.iload_n 1, 1) := by decide +kernel
theorem s_121_39 (cl : am_C) (a0 a2 a3 : Option am_V) (x : Int) (st : List am_V) (h : am_H) : am_go0 cl 121 39 [a0, some (.inl x), a2, a3] st h = am_go0 cl 121 40 [a0, some (.inl x), a2, a3] (.inl x :: st) h := am_r am_m121 d_121_39 rfl
theorem d_121_40 : am_code 121 40 = some (.iload_n 2, 1) := by decide +kernel
theorem s_121_40 (cl : am_C) (a0 a1 a3 : Option am_V) (x : Int) (st : List am_V) (h : am_H) : am_go0 cl 121 40 [a0, a1, some (.inl x), a3] st h = am_go0 cl 121 41 [a0, a1, some (.inl x), a3] (.inl x :: st) h := am_r am_m121 d_121_40 rfl
theorem d_121_41 : am_code 121 41 = some (.iload_n 3, 1) := by decide +kernel
theorem s_121_41 (cl : am_C) (a0 a1 a2 : Option am_V) (x : Int) (st : List am_V) (h : am_H) : am_go0 cl 121 41 [a0, a1, a2, some (.inl x)] st h = am_go0 cl 121 42 [a0, a1, a2, some (.inl x)] (.inl x :: st) h := am_r am_m121 d_121_41 rfl
theorem d_121_42 : am_code 121 42 = some (.invokevirtual 120, 3) := by decide +kernel
theorem s_121_42 (cl : am_C) (ls : am_Ls) (x0 : Int) (x1 : Int) (x2 : Int) (N : Nat) (I : Nat → Int → Int) (L : Nat → Int → Int64) : am_go0 cl 121 42 ls [.inl x2, .inl x1, .inl x0, .inr (.inr (some 10))] (am_GS N, am_GR, I, L) = am_bd (cl 8 [.inr (.inr (some 10)), .inl x0, .inl x1, .inl x2] (am_GS N, am_GR, I, L)) (fun v h2 => am_go0 cl 121 45 ls (v.toList ++ []) h2) := am_rV am_m121 d_121_42 am_k8120 rfl am_m8 (gs_10 N) (by decide) (Nat.le_of_ble_eq_true rfl) rfl ls
theorem d_121_45 : am_code 121 45 = some (.aload_n 0, 1) := by decide +kernel
theorem s_121_45 (cl : am_C) (a1 a2 a3 : Option am_V) (x : Nat) (st : List am_V) (h : am_H) : am_go0 cl 121 45 [some (.inr (.inr (some x))), a1, a2, a3] st h = am_go0 cl 121 46 [some (.inr (.inr (some x))), a1, a2, a3] (.inr (.inr (some x)) :: st) h := am_r am_m121 d_121_45 rfl
theorem d_121_46 : am_code 121 46 = some (.iconst 1, 1) := by decide +kernel
theorem s_121_46 (cl : am_C) (ls : am_Ls) (st : List am_V) (h : am_H) : am_go0 cl 121 46 ls st h = am_go0 cl 121 47 ls (.inl 1 :: st) h := am_rK am_m121 d_121_46 (by decide) rfl _ _ _
theorem d_121_47 : am_code 121 47 = some (.invokevirtual 84, 3) := by decide +kernel
theorem s_121_47 (cl : am_C) (ls : am_Ls) (x0 : Int) (N : Nat) (I : Nat → Int → Int) (L : Nat → Int → Int64) : am_go0 cl 121 47 ls [.inl x0, .inr (.inr (some 1))] (am_GS N, am_GR, I, L) = am_bd (cl 115 [.inr (.inr (some 1)), .inl x0] (am_GS N, am_GR, I, L)) (fun v h2 => am_go0 cl 121 50 ls (v.toList ++ []) h2) := am_rV am_m121 d_121_47 am_k8084 rfl am_m115 (gs_1 N) (by decide) (Nat.le_of_ble_eq_true rfl) rfl ls
theorem d_121_50 : am_code 121 50 = some (.ireturn, 1) := by decide +kernel
theorem s_121_50 (cl : am_C) (ls : am_Ls) (x : Int) (h : am_H) : am_go0 cl 121 50 ls [.inl x] h = some (some (.inl x), h) := am_rE am_m121 d_121_50 rfl
theorem e_121 (d : Nat) (t : Nat) (p0 : Int) (p1 : Int) (p2 : Int) (h : am_H) : am_call (d + 1) 121 [.inr (.inr (some t)), .inl p0, .inl p1, .inl p2] h = am_go0 (am_call d) 121 0 [some (.inr (.inr (some t))), some (.inl p0), some (.inl p1), some (.inl p2)] [] h := am_callE am_m121 (Nat.le_of_ble_eq_true rfl) rfl
theorem d_122_0 : am_code 122 0 = some (.aload_n 0, 1) := by decide +kernel
theorem s_122_0 (cl : am_C) (a1 a2 : Option am_V) (x : Nat) (st : List am_V) (h : am_H) : am_go0 cl 122 0 [some (.inr (.inr (some x))), a1, a2] st h = am_go0 cl 122 1 [some (.inr (.inr (some x))), a1, a2] (.inr (.inr (some x)) :: st) h := am_r am_m122 d_122_0 rfl
theorem d_122_1 : am_code 122 1 = some (.getfield 19, 3) := by decide +kernel
theorem s_122_1 (cl : am_C) (ls : am_Ls) (st : List am_V) (N : Nat) (I : Nat → Int → Int) (L : Nat → Int → Int64) : am_go0 cl 122 1 ls (.inr (.inr (some 1)) :: st) (am_GS N, am_GR, I, L) = am_go0 cl 122 4 ls (.inr (.inr (some 10)) :: st) (am_GS N, am_GR, I, L) := am_rG2 am_m122 d_122_1 am_f8019 rfl (gs_1 N) (by decide) gr_1_1 rfl
theorem d_122_4 : am_code 122 4 = some (.iload_n 1, 1) := by decide +kernel
theorem s_122_4 (cl : am_C) (a0 a2 : Option am_V) (x : Int) (st : List am_V) (h : am_H) : am_go0 cl 122 4 [a0, some (.inl x), a2] st h = am_go0 cl 122 5 [a0, some (.inl x), a2] (.inl x :: st) h := am_r am_m122 d_122_4 rfl
theorem d_122_5 : am_code 122 5 = some (.invokevirtual 123, 3) := by decide +kernel
theorem s_122_5 (cl : am_C) (ls : am_Ls) (x0 : Int) (N : Nat) (I : Nat → Int → Int) (L : Nat → Int → Int64) : am_go0 cl 122 5 ls [.inl x0, .inr (.inr (some 10))] (am_GS N, am_GR, I, L) = am_bd (cl 3 [.inr (.inr (some 10)), .inl x0] (am_GS N, am_GR, I, L)) (fun v h2 => am_go0 cl 122 8 ls (v.toList ++ []) h2) := am_rV am_m122 d_122_5 am_k8123 rfl am_m3 (gs_10 N) (by decide) (Nat.le_of_ble_eq_true rfl) rfl ls
theorem d_122_8 : am_code 122 8 = some (.ifCond .eq 25, 3) := by decide +kernel
theorem s_122_8 (cl : am_C) (ls : am_Ls) (x : Int) (st : List am_V) (h : am_H) : am_go0 cl 122 8 ls (.inl x :: st) h = if x = 0 then am_go0 cl 122 33 ls st h else am_go0 cl 122 11 ls st h := (am_rJ1 am_m122 d_122_8 (by decide) rfl x ls st h).trans (am_ifT (am_cmp_eq x 0) _ _)
theorem d_122_11 : am_code 122 11 = some (.aload_n 0, 1) := by decide +kernel
theorem s_122_11 (cl : am_C) (a1 a2 : Option am_V) (x : Nat) (st : List am_V) (h : am_H) : am_go0 cl 122 11 [some (.inr (.inr (some x))), a1, a2] st h = am_go0 cl 122 12 [some (.inr (.inr (some x))), a1, a2] (.inr (.inr (some x)) :: st) h := am_r am_m122 d_122_11 rfl
theorem d_122_12 : am_code 122 12 = some (.getfield 10, 3) := by decide +kernel
theorem s_122_12 (cl : am_C) (ls : am_Ls) (st : List am_V) (N : Nat) (I : Nat → Int → Int) (L : Nat → Int → Int64) : am_go0 cl 122 12 ls (.inr (.inr (some 1)) :: st) (am_GS N, am_GR, I, L) = am_go0 cl 122 15 ls (.inr (.inr (some 2)) :: st) (am_GS N, am_GR, I, L) := am_rG2 am_m122 d_122_12 am_f8010 rfl (gs_1 N) (by decide) gr_1_0 rfl
theorem d_122_15 : am_code 122 15 = some (.iload_n 2, 1) := by decide +kernel
theorem s_122_15 (cl : am_C) (a0 a1 : Option am_V) (x : Int) (st : List am_V) (h : am_H) : am_go0 cl 122 15 [a0, a1, some (.inl x)] st h = am_go0 cl 122 16 [a0, a1, some (.inl x)] (.inl x :: st) h := am_r am_m122 d_122_15 rfl
theorem d_122_16 : am_code 122 16 = some (.invokevirtual 124, 3) := by decide +kernel
theorem s_122_16 (cl : am_C) (ls : am_Ls) (x0 : Int) (N : Nat) (I : Nat → Int → Int) (L : Nat → Int → Int64) : am_go0 cl 122 16 ls [.inl x0, .inr (.inr (some 2))] (am_GS N, am_GR, I, L) = am_bd (cl 74 [.inr (.inr (some 2)), .inl x0] (am_GS N, am_GR, I, L)) (fun v h2 => am_go0 cl 122 19 ls (v.toList ++ []) h2) := am_rV am_m122 d_122_16 am_k8124 rfl am_m74 (gs_2 N) (by decide) (Nat.le_of_ble_eq_true rfl) rfl ls
theorem d_122_19 : am_code 122 19 = some (.ifCond .eq 14, 3) := by decide +kernel
theorem s_122_19 (cl : am_C) (ls : am_Ls) (x : Int) (st : List am_V) (h : am_H) : am_go0 cl 122 19 ls (.inl x :: st) h = if x = 0 then am_go0 cl 122 33 ls st h else am_go0 cl 122 22 ls st h := (am_rJ1 am_m122 d_122_19 (by decide) rfl x ls st h).trans (am_ifT (am_cmp_eq x 0) _ _)
theorem d_122_22 : am_code 122 22 = some (.aload_n 0, 1) := by decide +kernel
theorem s_122_22 (cl : am_C) (a1 a2 : Option am_V) (x : Nat) (st : List am_V) (h : am_H) : am_go0 cl 122 22 [some (.inr (.inr (some x))), a1, a2] st h = am_go0 cl 122 23 [some (.inr (.inr (some x))), a1, a2] (.inr (.inr (some x)) :: st) h := am_r am_m122 d_122_22 rfl
theorem d_122_23 : am_code 122 23 = some (.getfield 10, 3) := by decide +kernel
theorem s_122_23 (cl : am_C) (ls : am_Ls) (st : List am_V) (N : Nat) (I : Nat → Int → Int) (L : Nat → Int → Int64) : am_go0 cl 122 23 ls (.inr (.inr (some 1)) :: st) (am_GS N, am_GR, I, L) = am_go0 cl 122 26 ls (.inr (.inr (some 2)) :: st) (am_GS N, am_GR, I, L) := am_rG2 am_m122 d_122_23 am_f8010 rfl (gs_1 N) (by decide) gr_1_0 rfl
theorem d_122_26 : am_code 122 26 = some (.iload_n 2, 1) := by decide +kernel
theorem s_122_26 (cl : am_C) (a0 a1 : Option am_V) (x : Int) (st : List am_V) (h : am_H) : am_go0 cl 122 26 [a0, a1, some (.inl x)] st h = am_go0 cl 122 27 [a0, a1, some (.inl x)] (.inl x :: st) h := am_r am_m122 d_122_26 rfl
theorem d_122_27 : am_code 122 27 = some (.invokevirtual 125, 3) := by decide +kernel
theorem s_122_27 (cl : am_C) (ls : am_Ls) (x0 : Int) (N : Nat) (I : Nat → Int → Int) (L : Nat → Int → Int64) : am_go0 cl 122 27 ls [.inl x0, .inr (.inr (some 2))] (am_GS N, am_GR, I, L) = am_bd (cl 78 [.inr (.inr (some 2)), .inl x0] (am_GS N, am_GR, I, L)) (fun v h2 => am_go0 cl 122 30 ls (v.toList ++ []) h2) := am_rV am_m122 d_122_27 am_k8125 rfl am_m78 (gs_2 N) (by decide) (Nat.le_of_ble_eq_true rfl) rfl ls
theorem d_122_30 : am_code 122 30 = some (.ifCond .ne 6, 3) := by decide +kernel
theorem s_122_30 (cl : am_C) (ls : am_Ls) (x : Int) (st : List am_V) (h : am_H) : am_go0 cl 122 30 ls (.inl x :: st) h = if x = 0 then am_go0 cl 122 33 ls st h else am_go0 cl 122 36 ls st h := (am_rJ1 am_m122 d_122_30 (by decide) rfl x ls st h).trans (am_ifF ((am_cmp_ne x 0).trans Iff.rfl) _ _)
theorem d_122_33 : am_code 122 33 = some (.bipush (-2), 2) := by decide +kernel
theorem s_122_33 (cl : am_C) (ls : am_Ls) (st : List am_V) (h : am_H) : am_go0 cl 122 33 ls st h = am_go0 cl 122 35 ls (.inl (-2) :: st) h := am_rB am_m122 d_122_33 (by decide) rfl _ _ _
theorem d_122_35 : am_code 122 35 = some (.ireturn, 1) := by decide +kernel
theorem s_122_35 (cl : am_C) (ls : am_Ls) (x : Int) (h : am_H) : am_go0 cl 122 35 ls [.inl x] h = some (some (.inl x), h) := am_rE am_m122 d_122_35 rfl
theorem d_122_36 : am_code 122 36 = some (.aload_n 0, 1) := by decide +kernel
theorem s_122_36 (cl : am_C) (a1 a2 : Option am_V) (x : Nat) (st : List am_V) (h : am_H) : am_go0 cl 122 36 [some (.inr (.inr (some x))), a1, a2] st h = am_go0 cl 122 37 [some (.inr (.inr (some x))), a1, a2] (.inr (.inr (some x)) :: st) h := am_r am_m122 d_122_36 rfl
theorem d_122_37 : am_code 122 37 = some (.getfield 53, 3) := by decide +kernel
theorem s_122_37 (cl : am_C) (ls : am_Ls) (st : List am_V) (N : Nat) (I : Nat → Int → Int) (L : Nat → Int → Int64) : am_go0 cl 122 37 ls (.inr (.inr (some 1)) :: st) (am_GS N, am_GR, I, L) = am_go0 cl 122 40 ls (.inr (.inr (some 33)) :: st) (am_GS N, am_GR, I, L) := am_rG2 am_m122 d_122_37 am_f8053 rfl (gs_1 N) (by decide) gr_1_5 rfl
theorem d_122_40 : am_code 122 40 = some (.iload_n 1, 1) := by decide +kernel
theorem s_122_40 (cl : am_C) (a0 a2 : Option am_V) (x : Int) (st : List am_V) (h : am_H) : am_go0 cl 122 40 [a0, some (.inl x), a2] st h = am_go0 cl 122 41 [a0, some (.inl x), a2] (.inl x :: st) h := am_r am_m122 d_122_40 rfl
theorem d_122_41 : am_code 122 41 = some (.iload_n 2, 1) := by decide +kernel
theorem s_122_41 (cl : am_C) (a0 a1 : Option am_V) (x : Int) (st : List am_V) (h : am_H) : am_go0 cl 122 41 [a0, a1, some (.inl x)] st h = am_go0 cl 122 42 [a0, a1, some (.inl x)] (.inl x :: st) h := am_r am_m122 d_122_41 rfl
theorem d_122_42 : am_code 122 42 = some (.invokevirtual 128, 3) := by decide +kernel
theorem s_122_42 (cl : am_C) (ls : am_Ls) (x0 : Int) (x1 : Int) (N : Nat) (I : Nat → Int → Int) (L : Nat → Int → Int64) : am_go0 cl 122 42 ls [.inl x1, .inl x0, .inr (.inr (some 33))] (am_GS N, am_GR, I, L) = am_bd (cl 13 [.inr (.inr (some 33)), .inl x0, .inl x1] (am_GS N, am_GR, I, L)) (fun v h2 => am_go0 cl 122 45 ls (v.toList ++ []) h2) := am_rV am_m122 d_122_42 am_k8128 rfl am_m13 (gs_33 N) (by decide) (Nat.le_of_ble_eq_true rfl) rfl ls
theorem d_122_45 : am_code 122 45 = some (.ireturn, 1) := by decide +kernel
theorem s_122_45 (cl : am_C) (ls : am_Ls) (x : Int) (h : am_H) : am_go0 cl 122 45 ls [.inl x] h = some (some (.inl x), h) := am_rE am_m122 d_122_45 rfl
theorem e_122 (d : Nat) (t : Nat) (p0 : Int) (p1 : Int) (h : am_H) : am_call (d + 1) 122 [.inr (.inr (some t)), .inl p0, .inl p1] h = am_go0 (am_call d) 122 0 [some (.inr (.inr (some t))), some (.inl p0), some (.inl p1)] [] h := am_callE am_m122 (Nat.le_of_ble_eq_true rfl) rfl
theorem d_123_0 : am_code 123 0 = some (.iload_n 1, 1) := by decide +kernel
theorem s_123_0 (cl : am_C) (a0 : Option am_V) (x : Int) (st : List am_V) (h : am_H) : am_go0 cl 123 0 [a0, some (.inl x)] st h = am_go0 cl 123 1 [a0, some (.inl x)] (.inl x :: st) h := am_r am_m123 d_123_0 rfl
theorem d_123_1 : am_code 123 1 = some (.lookupswitch 43 #[(0, 27), (1, 35)], 27) := by decide +kernel
theorem s_123_1 (cl : am_C) (ls : am_Ls) (x : Int) (st : List am_V) (h : am_H) : am_go0 cl 123 1 ls (.inl x :: st) h = if x = 0 then am_go0 cl 123 28 ls st h else if x = 1 then am_go0 cl 123 36 ls st h else am_go0 cl 123 44 ls st h := by
  by_cases q0 : x = 0
  · subst q0; exact (am_rLs am_m123 d_123_1 (by decide +kernel) (by decide +kernel) _ _ _).trans (if_pos rfl).symm
  rw [if_neg q0]
  by_cases q1 : x = 1
  · subst q1; exact (am_rLs am_m123 d_123_1 (by decide +kernel) (by decide +kernel) _ _ _).trans (if_pos rfl).symm
  rw [if_neg q1]
  exact am_rLs am_m123 d_123_1 (by decide +kernel) (by simp [Op.lookupswitch.offset, q0, q1, Ne.symm q0, Ne.symm q1]) _ _ _
theorem d_123_28 : am_code 123 28 = some (.aload_n 0, 1) := by decide +kernel
theorem s_123_28 (cl : am_C) (a1 : Option am_V) (x : Nat) (st : List am_V) (h : am_H) : am_go0 cl 123 28 [some (.inr (.inr (some x))), a1] st h = am_go0 cl 123 29 [some (.inr (.inr (some x))), a1] (.inr (.inr (some x)) :: st) h := am_r am_m123 d_123_28 rfl
theorem d_123_29 : am_code 123 29 = some (.getfield 53, 3) := by decide +kernel
theorem s_123_29 (cl : am_C) (ls : am_Ls) (st : List am_V) (N : Nat) (I : Nat → Int → Int) (L : Nat → Int → Int64) : am_go0 cl 123 29 ls (.inr (.inr (some 1)) :: st) (am_GS N, am_GR, I, L) = am_go0 cl 123 32 ls (.inr (.inr (some 33)) :: st) (am_GS N, am_GR, I, L) := am_rG2 am_m123 d_123_29 am_f8053 rfl (gs_1 N) (by decide) gr_1_5 rfl
theorem d_123_32 : am_code 123 32 = some (.invokevirtual 131, 3) := by decide +kernel
theorem s_123_32 (cl : am_C) (ls : am_Ls) (N : Nat) (I : Nat → Int → Int) (L : Nat → Int → Int64) : am_go0 cl 123 32 ls [.inr (.inr (some 33))] (am_GS N, am_GR, I, L) = am_bd (cl 19 [.inr (.inr (some 33))] (am_GS N, am_GR, I, L)) (fun v h2 => am_go0 cl 123 35 ls (v.toList ++ []) h2) := am_rV am_m123 d_123_32 am_k8131 rfl am_m19 (gs_33 N) (by decide) (Nat.le_of_ble_eq_true rfl) rfl ls
theorem d_123_35 : am_code 123 35 = some (.ireturn, 1) := by decide +kernel
theorem s_123_35 (cl : am_C) (ls : am_Ls) (x : Int) (h : am_H) : am_go0 cl 123 35 ls [.inl x] h = some (some (.inl x), h) := am_rE am_m123 d_123_35 rfl
theorem d_123_36 : am_code 123 36 = some (.aload_n 0, 1) := by decide +kernel
theorem s_123_36 (cl : am_C) (a1 : Option am_V) (x : Nat) (st : List am_V) (h : am_H) : am_go0 cl 123 36 [some (.inr (.inr (some x))), a1] st h = am_go0 cl 123 37 [some (.inr (.inr (some x))), a1] (.inr (.inr (some x)) :: st) h := am_r am_m123 d_123_36 rfl
theorem d_123_37 : am_code 123 37 = some (.getfield 53, 3) := by decide +kernel
theorem s_123_37 (cl : am_C) (ls : am_Ls) (st : List am_V) (N : Nat) (I : Nat → Int → Int) (L : Nat → Int → Int64) : am_go0 cl 123 37 ls (.inr (.inr (some 1)) :: st) (am_GS N, am_GR, I, L) = am_go0 cl 123 40 ls (.inr (.inr (some 33)) :: st) (am_GS N, am_GR, I, L) := am_rG2 am_m123 d_123_37 am_f8053 rfl (gs_1 N) (by decide) gr_1_5 rfl
theorem d_123_40 : am_code 123 40 = some (.invokevirtual 135, 3) := by decide +kernel
theorem s_123_40 (cl : am_C) (ls : am_Ls) (N : Nat) (I : Nat → Int → Int) (L : Nat → Int → Int64) : am_go0 cl 123 40 ls [.inr (.inr (some 33))] (am_GS N, am_GR, I, L) = am_bd (cl 20 [.inr (.inr (some 33))] (am_GS N, am_GR, I, L)) (fun v h2 => am_go0 cl 123 43 ls (v.toList ++ []) h2) := am_rV am_m123 d_123_40 am_k8135 rfl am_m20 (gs_33 N) (by decide) (Nat.le_of_ble_eq_true rfl) rfl ls
theorem d_123_43 : am_code 123 43 = some (.ireturn, 1) := by decide +kernel
theorem s_123_43 (cl : am_C) (ls : am_Ls) (x : Int) (h : am_H) : am_go0 cl 123 43 ls [.inl x] h = some (some (.inl x), h) := am_rE am_m123 d_123_43 rfl
theorem d_123_44 : am_code 123 44 = some (.bipush (-2), 2) := by decide +kernel
theorem s_123_44 (cl : am_C) (ls : am_Ls) (st : List am_V) (h : am_H) : am_go0 cl 123 44 ls st h = am_go0 cl 123 46 ls (.inl (-2) :: st) h := am_rB am_m123 d_123_44 (by decide) rfl _ _ _
theorem d_123_46 : am_code 123 46 = some (.ireturn, 1) := by decide +kernel
theorem s_123_46 (cl : am_C) (ls : am_Ls) (x : Int) (h : am_H) : am_go0 cl 123 46 ls [.inl x] h = some (some (.inl x), h) := am_rE am_m123 d_123_46 rfl
theorem e_123 (d : Nat) (t : Nat) (p0 : Int) (h : am_H) : am_call (d + 1) 123 [.inr (.inr (some t)), .inl p0] h = am_go0 (am_call d) 123 0 [some (.inr (.inr (some t))), some (.inl p0)] [] h := am_callE am_m123 (Nat.le_of_ble_eq_true rfl) rfl
theorem d_124_0 : am_code 124 0 = some (.aload_n 0, 1) := by decide +kernel
theorem s_124_0 (cl : am_C) (a1 a2 : Option am_V) (x : Nat) (st : List am_V) (h : am_H) : am_go0 cl 124 0 [some (.inr (.inr (some x))), a1, a2] st h = am_go0 cl 124 1 [some (.inr (.inr (some x))), a1, a2] (.inr (.inr (some x)) :: st) h := am_r am_m124 d_124_0 rfl
theorem d_124_1 : am_code 124 1 = some (.getfield 53, 3) := by decide +kernel
theorem s_124_1 (cl : am_C) (ls : am_Ls) (st : List am_V) (N : Nat) (I : Nat → Int → Int) (L : Nat → Int → Int64) : am_go0 cl 124 1 ls (.inr (.inr (some 1)) :: st) (am_GS N, am_GR, I, L) = am_go0 cl 124 4 ls (.inr (.inr (some 33)) :: st) (am_GS N, am_GR, I, L) := am_rG2 am_m124 d_124_1 am_f8053 rfl (gs_1 N) (by decide) gr_1_5 rfl
theorem d_124_4 : am_code 124 4 = some (.iload_n 1, 1) := by decide +kernel
theorem s_124_4 (cl : am_C) (a0 a2 : Option am_V) (x : Int) (st : List am_V) (h : am_H) : am_go0 cl 124 4 [a0, some (.inl x), a2] st h = am_go0 cl 124 5 [a0, some (.inl x), a2] (.inl x :: st) h := am_r am_m124 d_124_4 rfl
theorem d_124_5 : am_code 124 5 = some (.invokevirtual 138, 3) := by decide +kernel
theorem s_124_5 (cl : am_C) (ls : am_Ls) (x0 : Int) (N : Nat) (I : Nat → Int → Int) (L : Nat → Int → Int64) : am_go0 cl 124 5 ls [.inl x0, .inr (.inr (some 33))] (am_GS N, am_GR, I, L) = am_bd (cl 21 [.inr (.inr (some 33)), .inl x0] (am_GS N, am_GR, I, L)) (fun v h2 => am_go0 cl 124 8 ls (v.toList ++ []) h2) := am_rV am_m124 d_124_5 am_k8138 rfl am_m21 (gs_33 N) (by decide) (Nat.le_of_ble_eq_true rfl) rfl ls
theorem d_124_8 : am_code 124 8 = some (.ifCond .eq 19, 3) := by decide +kernel
theorem s_124_8 (cl : am_C) (ls : am_Ls) (x : Int) (st : List am_V) (h : am_H) : am_go0 cl 124 8 ls (.inl x :: st) h = if x = 0 then am_go0 cl 124 27 ls st h else am_go0 cl 124 11 ls st h := (am_rJ1 am_m124 d_124_8 (by decide) rfl x ls st h).trans (am_ifT (am_cmp_eq x 0) _ _)
theorem d_124_11 : am_code 124 11 = some (.iload_n 2, 1) := by decide +kernel
theorem s_124_11 (cl : am_C) (a0 a1 : Option am_V) (x : Int) (st : List am_V) (h : am_H) : am_go0 cl 124 11 [a0, a1, some (.inl x)] st h = am_go0 cl 124 12 [a0, a1, some (.inl x)] (.inl x :: st) h := am_r am_m124 d_124_11 rfl
theorem d_124_12 : am_code 124 12 = some (.ifCond .lt 15, 3) := by decide +kernel
theorem s_124_12 (cl : am_C) (ls : am_Ls) (x : Int) (st : List am_V) (h : am_H) : am_go0 cl 124 12 ls (.inl x :: st) h = if x < 0 then am_go0 cl 124 27 ls st h else am_go0 cl 124 15 ls st h := (am_rJ1 am_m124 d_124_12 (by decide) rfl x ls st h).trans (am_ifT (am_cmp_lt x 0) _ _)
theorem d_124_15 : am_code 124 15 = some (.iload_n 2, 1) := by decide +kernel
theorem s_124_15 (cl : am_C) (a0 a1 : Option am_V) (x : Int) (st : List am_V) (h : am_H) : am_go0 cl 124 15 [a0, a1, some (.inl x)] st h = am_go0 cl 124 16 [a0, a1, some (.inl x)] (.inl x :: st) h := am_r am_m124 d_124_15 rfl
theorem d_124_16 : am_code 124 16 = some (.aload_n 0, 1) := by decide +kernel
theorem s_124_16 (cl : am_C) (a1 a2 : Option am_V) (x : Nat) (st : List am_V) (h : am_H) : am_go0 cl 124 16 [some (.inr (.inr (some x))), a1, a2] st h = am_go0 cl 124 17 [some (.inr (.inr (some x))), a1, a2] (.inr (.inr (some x)) :: st) h := am_r am_m124 d_124_16 rfl
theorem d_124_17 : am_code 124 17 = some (.getfield 53, 3) := by decide +kernel
theorem s_124_17 (cl : am_C) (ls : am_Ls) (st : List am_V) (N : Nat) (I : Nat → Int → Int) (L : Nat → Int → Int64) : am_go0 cl 124 17 ls (.inr (.inr (some 1)) :: st) (am_GS N, am_GR, I, L) = am_go0 cl 124 20 ls (.inr (.inr (some 33)) :: st) (am_GS N, am_GR, I, L) := am_rG2 am_m124 d_124_17 am_f8053 rfl (gs_1 N) (by decide) gr_1_5 rfl
theorem d_124_20 : am_code 124 20 = some (.iload_n 1, 1) := by decide +kernel
theorem s_124_20 (cl : am_C) (a0 a2 : Option am_V) (x : Int) (st : List am_V) (h : am_H) : am_go0 cl 124 20 [a0, some (.inl x), a2] st h = am_go0 cl 124 21 [a0, some (.inl x), a2] (.inl x :: st) h := am_r am_m124 d_124_20 rfl
theorem d_124_21 : am_code 124 21 = some (.invokevirtual 139, 3) := by decide +kernel
theorem s_124_21 (cl : am_C) (ls : am_Ls) (x0 : Int) (z0 : Int) (N : Nat) (I : Nat → Int → Int) (L : Nat → Int → Int64) : am_go0 cl 124 21 ls [.inl x0, .inr (.inr (some 33)), .inl z0] (am_GS N, am_GR, I, L) = am_bd (cl 16 [.inr (.inr (some 33)), .inl x0] (am_GS N, am_GR, I, L)) (fun v h2 => am_go0 cl 124 24 ls (v.toList ++ [.inl z0]) h2) := am_rV am_m124 d_124_21 am_k8139 rfl am_m16 (gs_33 N) (by decide) (Nat.le_of_ble_eq_true rfl) rfl ls
theorem d_124_24 : am_code 124 24 = some (.if_icmp .lt 6, 3) := by decide +kernel
theorem s_124_24 (cl : am_C) (ls : am_Ls) (x y : Int) (st : List am_V) (h : am_H) : am_go0 cl 124 24 ls (.inl y :: .inl x :: st) h = if x < y then am_go0 cl 124 30 ls st h else am_go0 cl 124 27 ls st h := (am_rJ0 am_m124 d_124_24 (by decide) rfl x y ls st h).trans (am_ifT (am_cmp_lt x y) _ _)
theorem d_124_27 : am_code 124 27 = some (.bipush (-2), 2) := by decide +kernel
theorem s_124_27 (cl : am_C) (ls : am_Ls) (st : List am_V) (h : am_H) : am_go0 cl 124 27 ls st h = am_go0 cl 124 29 ls (.inl (-2) :: st) h := am_rB am_m124 d_124_27 (by decide) rfl _ _ _
theorem d_124_29 : am_code 124 29 = some (.ireturn, 1) := by decide +kernel
theorem s_124_29 (cl : am_C) (ls : am_Ls) (x : Int) (h : am_H) : am_go0 cl 124 29 ls [.inl x] h = some (some (.inl x), h) := am_rE am_m124 d_124_29 rfl
theorem d_124_30 : am_code 124 30 = some (.aload_n 0, 1) := by decide +kernel
theorem s_124_30 (cl : am_C) (a1 a2 : Option am_V) (x : Nat) (st : List am_V) (h : am_H) : am_go0 cl 124 30 [some (.inr (.inr (some x))), a1, a2] st h = am_go0 cl 124 31 [some (.inr (.inr (some x))), a1, a2] (.inr (.inr (some x)) :: st) h := am_r am_m124 d_124_30 rfl
theorem d_124_31 : am_code 124 31 = some (.getfield 53, 3) := by decide +kernel
theorem s_124_31 (cl : am_C) (ls : am_Ls) (st : List am_V) (N : Nat) (I : Nat → Int → Int) (L : Nat → Int → Int64) : am_go0 cl 124 31 ls (.inr (.inr (some 1)) :: st) (am_GS N, am_GR, I, L) = am_go0 cl 124 34 ls (.inr (.inr (some 33)) :: st) (am_GS N, am_GR, I, L) := am_rG2 am_m124 d_124_31 am_f8053 rfl (gs_1 N) (by decide) gr_1_5 rfl
theorem d_124_34 : am_code 124 34 = some (.iload_n 1, 1) := by decide +kernel
theorem s_124_34 (cl : am_C) (a0 a2 : Option am_V) (x : Int) (st : List am_V) (h : am_H) : am_go0 cl 124 34 [a0, some (.inl x), a2] st h = am_go0 cl 124 35 [a0, some (.inl x), a2] (.inl x :: st) h := am_r am_m124 d_124_34 rfl
theorem d_124_35 : am_code 124 35 = some (.iload_n 2, 1) := by decide +kernel
theorem s_124_35 (cl : am_C) (a0 a1 : Option am_V) (x : Int) (st : List am_V) (h : am_H) : am_go0 cl 124 35 [a0, a1, some (.inl x)] st h = am_go0 cl 124 36 [a0, a1, some (.inl x)] (.inl x :: st) h := am_r am_m124 d_124_35 rfl
theorem d_124_36 : am_code 124 36 = some (.invokevirtual 142, 3) := by decide +kernel
theorem s_124_36 (cl : am_C) (ls : am_Ls) (x0 : Int) (x1 : Int) (N : Nat) (I : Nat → Int → Int) (L : Nat → Int → Int64) : am_go0 cl 124 36 ls [.inl x1, .inl x0, .inr (.inr (some 33))] (am_GS N, am_GR, I, L) = am_bd (cl 22 [.inr (.inr (some 33)), .inl x0, .inl x1] (am_GS N, am_GR, I, L)) (fun v h2 => am_go0 cl 124 39 ls (v.toList ++ []) h2) := am_rV am_m124 d_124_36 am_k8142 rfl am_m22 (gs_33 N) (by decide) (Nat.le_of_ble_eq_true rfl) rfl ls
theorem d_124_39 : am_code 124 39 = some (.ireturn, 1) := by decide +kernel
theorem s_124_39 (cl : am_C) (ls : am_Ls) (x : Int) (h : am_H) : am_go0 cl 124 39 ls [.inl x] h = some (some (.inl x), h) := am_rE am_m124 d_124_39 rfl
theorem e_124 (d : Nat) (t : Nat) (p0 : Int) (p1 : Int) (h : am_H) : am_call (d + 1) 124 [.inr (.inr (some t)), .inl p0, .inl p1] h = am_go0 (am_call d) 124 0 [some (.inr (.inr (some t))), some (.inl p0), some (.inl p1)] [] h := am_callE am_m124 (Nat.le_of_ble_eq_true rfl) rfl
theorem d_125_0 : am_code 125 0 = some (.aload_n 0, 1) := by decide +kernel
theorem s_125_0 (cl : am_C) (a1 a2 : Option am_V) (x : Nat) (st : List am_V) (h : am_H) : am_go0 cl 125 0 [some (.inr (.inr (some x))), a1, a2] st h = am_go0 cl 125 1 [some (.inr (.inr (some x))), a1, a2] (.inr (.inr (some x)) :: st) h := am_r am_m125 d_125_0 rfl
theorem d_125_1 : am_code 125 1 = some (.getfield 53, 3) := by decide +kernel
theorem s_125_1 (cl : am_C) (ls : am_Ls) (st : List am_V) (N : Nat) (I : Nat → Int → Int) (L : Nat → Int → Int64) : am_go0 cl 125 1 ls (.inr (.inr (some 1)) :: st) (am_GS N, am_GR, I, L) = am_go0 cl 125 4 ls (.inr (.inr (some 33)) :: st) (am_GS N, am_GR, I, L) := am_rG2 am_m125 d_125_1 am_f8053 rfl (gs_1 N) (by decide) gr_1_5 rfl
theorem d_125_4 : am_code 125 4 = some (.iload_n 1, 1) := by decide +kernel
theorem s_125_4 (cl : am_C) (a0 a2 : Option am_V) (x : Int) (st : List am_V) (h : am_H) : am_go0 cl 125 4 [a0, some (.inl x), a2] st h = am_go0 cl 125 5 [a0, some (.inl x), a2] (.inl x :: st) h := am_r am_m125 d_125_4 rfl
theorem d_125_5 : am_code 125 5 = some (.invokevirtual 138, 3) := by decide +kernel
theorem s_125_5 (cl : am_C) (ls : am_Ls) (x0 : Int) (N : Nat) (I : Nat → Int → Int) (L : Nat → Int → Int64) : am_go0 cl 125 5 ls [.inl x0, .inr (.inr (some 33))] (am_GS N, am_GR, I, L) = am_bd (cl 21 [.inr (.inr (some 33)), .inl x0] (am_GS N, am_GR, I, L)) (fun v h2 => am_go0 cl 125 8 ls (v.toList ++ []) h2) := am_rV am_m125 d_125_5 am_k8138 rfl am_m21 (gs_33 N) (by decide) (Nat.le_of_ble_eq_true rfl) rfl ls
theorem d_125_8 : am_code 125 8 = some (.ifCond .ne 6, 3) := by decide +kernel
theorem s_125_8 (cl : am_C) (ls : am_Ls) (x : Int) (st : List am_V) (h : am_H) : am_go0 cl 125 8 ls (.inl x :: st) h = if x = 0 then am_go0 cl 125 11 ls st h else am_go0 cl 125 14 ls st h := (am_rJ1 am_m125 d_125_8 (by decide) rfl x ls st h).trans (am_ifF ((am_cmp_ne x 0).trans Iff.rfl) _ _)
theorem d_125_11 : am_code 125 11 = some (.bipush (-2), 2) := by decide +kernel
theorem s_125_11 (cl : am_C) (ls : am_Ls) (st : List am_V) (h : am_H) : am_go0 cl 125 11 ls st h = am_go0 cl 125 13 ls (.inl (-2) :: st) h := am_rB am_m125 d_125_11 (by decide) rfl _ _ _
theorem d_125_13 : am_code 125 13 = some (.ireturn, 1) := by decide +kernel
theorem s_125_13 (cl : am_C) (ls : am_Ls) (x : Int) (h : am_H) : am_go0 cl 125 13 ls [.inl x] h = some (some (.inl x), h) := am_rE am_m125 d_125_13 rfl
theorem d_125_14 : am_code 125 14 = some (.iload_n 2, 1) := by decide +kernel
theorem s_125_14 (cl : am_C) (a0 a1 : Option am_V) (x : Int) (st : List am_V) (h : am_H) : am_go0 cl 125 14 [a0, a1, some (.inl x)] st h = am_go0 cl 125 15 [a0, a1, some (.inl x)] (.inl x :: st) h := am_r am_m125 d_125_14 rfl
theorem d_125_15 : am_code 125 15 = some (.tableswitch 78 0 4 #[33, 42, 51, 60, 69], 33) := by decide +kernel
theorem s_125_15 (cl : am_C) (ls : am_Ls) (x : Int) (st : List am_V) (h : am_H) : am_go0 cl 125 15 ls (.inl x :: st) h = if x = 0 then am_go0 cl 125 48 ls st h else if x = 1 then am_go0 cl 125 57 ls st h else if x = 2 then am_go0 cl 125 66 ls st h else if x = 3 then am_go0 cl 125 75 ls st h else if x = 4 then am_go0 cl 125 84 ls st h else am_go0 cl 125 93 ls st h := by
  by_cases q0 : x = 0
  · subst q0; exact (am_rTs (33) am_m125 d_125_15 (by decide +kernel) (by decide) _ _ _).trans (if_pos rfl).symm
  rw [if_neg q0]
  by_cases q1 : x = 1
  · subst q1; exact (am_rTs (42) am_m125 d_125_15 (by decide +kernel) (by decide) _ _ _).trans (if_pos rfl).symm
  rw [if_neg q1]
  by_cases q2 : x = 2
  · subst q2; exact (am_rTs (51) am_m125 d_125_15 (by decide +kernel) (by decide) _ _ _).trans (if_pos rfl).symm
  rw [if_neg q2]
  by_cases q3 : x = 3
  · subst q3; exact (am_rTs (60) am_m125 d_125_15 (by decide +kernel) (by decide) _ _ _).trans (if_pos rfl).symm
  rw [if_neg q3]
  by_cases q4 : x = 4
  · subst q4; exact (am_rTs (69) am_m125 d_125_15 (by decide +kernel) (by decide) _ _ _).trans (if_pos rfl).symm
  rw [if_neg q4]
  exact am_rTs (78) am_m125 d_125_15 (am_sw_out (by omega)) (by decide) _ _ _
theorem d_125_48 : am_code 125 48 = some (.aload_n 0, 1) := by decide +kernel
theorem s_125_48 (cl : am_C) (a1 a2 : Option am_V) (x : Nat) (st : List am_V) (h : am_H) : am_go0 cl 125 48 [some (.inr (.inr (some x))), a1, a2] st h = am_go0 cl 125 49 [some (.inr (.inr (some x))), a1, a2] (.inr (.inr (some x)) :: st) h := am_r am_m125 d_125_48 rfl
theorem d_125_49 : am_code 125 49 = some (.getfield 53, 3) := by decide +kernel
theorem s_125_49 (cl : am_C) (ls : am_Ls) (st : List am_V) (N : Nat) (I : Nat → Int → Int) (L : Nat → Int → Int64) : am_go0 cl 125 49 ls (.inr (.inr (some 1)) :: st) (am_GS N, am_GR, I, L) = am_go0 cl 125 52 ls (.inr (.inr (some 33)) :: st) (am_GS N, am_GR, I, L) := am_rG2 am_m125 d_125_49 am_f8053 rfl (gs_1 N) (by decide) gr_1_5 rfl
theorem d_125_52 : am_code 125 52 = some (.iload_n 1, 1) := by decide +kernel
theorem s_125_52 (cl : am_C) (a0 a2 : Option am_V) (x : Int) (st : List am_V) (h : am_H) : am_go0 cl 125 52 [a0, some (.inl x), a2] st h = am_go0 cl 125 53 [a0, some (.inl x), a2] (.inl x :: st) h := am_r am_m125 d_125_52 rfl
theorem d_125_53 : am_code 125 53 = some (.invokevirtual 145, 3) := by decide +kernel
theorem s_125_53 (cl : am_C) (ls : am_Ls) (x0 : Int) (N : Nat) (I : Nat → Int → Int) (L : Nat → Int → Int64) : am_go0 cl 125 53 ls [.inl x0, .inr (.inr (some 33))] (am_GS N, am_GR, I, L) = am_bd (cl 23 [.inr (.inr (some 33)), .inl x0] (am_GS N, am_GR, I, L)) (fun v h2 => am_go0 cl 125 56 ls (v.toList ++ []) h2) := am_rV am_m125 d_125_53 am_k8145 rfl am_m23 (gs_33 N) (by decide) (Nat.le_of_ble_eq_true rfl) rfl ls
theorem d_125_56 : am_code 125 56 = some (.ireturn, 1) := by decide +kernel
theorem s_125_56 (cl : am_C) (ls : am_Ls) (x : Int) (h : am_H) : am_go0 cl 125 56 ls [.inl x] h = some (some (.inl x), h) := am_rE am_m125 d_125_56 rfl
theorem d_125_57 : am_code 125 57 = some (.aload_n 0, 1) := by decide +kernel
theorem s_125_57 (cl : am_C) (a1 a2 : Option am_V) (x : Nat) (st : List am_V) (h : am_H) : am_go0 cl 125 57 [some (.inr (.inr (some x))), a1, a2] st h = am_go0 cl 125 58 [some (.inr (.inr (some x))), a1, a2] (.inr (.inr (some x)) :: st) h := am_r am_m125 d_125_57 rfl
theorem d_125_58 : am_code 125 58 = some (.getfield 53, 3) := by decide +kernel
theorem s_125_58 (cl : am_C) (ls : am_Ls) (st : List am_V) (N : Nat) (I : Nat → Int → Int) (L : Nat → Int → Int64) : am_go0 cl 125 58 ls (.inr (.inr (some 1)) :: st) (am_GS N, am_GR, I, L) = am_go0 cl 125 61 ls (.inr (.inr (some 33)) :: st) (am_GS N, am_GR, I, L) := am_rG2 am_m125 d_125_58 am_f8053 rfl (gs_1 N) (by decide) gr_1_5 rfl
theorem d_125_61 : am_code 125 61 = some (.iload_n 1, 1) := by decide +kernel
theorem s_125_61 (cl : am_C) (a0 a2 : Option am_V) (x : Int) (st : List am_V) (h : am_H) : am_go0 cl 125 61 [a0, some (.inl x), a2] st h = am_go0 cl 125 62 [a0, some (.inl x), a2] (.inl x :: st) h := am_r am_m125 d_125_61 rfl
theorem d_125_62 : am_code 125 62 = some (.invokevirtual 146, 3) := by decide +kernel
theorem s_125_62 (cl : am_C) (ls : am_Ls) (x0 : Int) (N : Nat) (I : Nat → Int → Int) (L : Nat → Int → Int64) : am_go0 cl 125 62 ls [.inl x0, .inr (.inr (some 33))] (am_GS N, am_GR, I, L) = am_bd (cl 24 [.inr (.inr (some 33)), .inl x0] (am_GS N, am_GR, I, L)) (fun v h2 => am_go0 cl 125 65 ls (v.toList ++ []) h2) := am_rV am_m125 d_125_62 am_k8146 rfl am_m24 (gs_33 N) (by decide) (Nat.le_of_ble_eq_true rfl) rfl ls
theorem d_125_65 : am_code 125 65 = some (.ireturn, 1) := by decide +kernel
theorem s_125_65 (cl : am_C) (ls : am_Ls) (x : Int) (h : am_H) : am_go0 cl 125 65 ls [.inl x] h = some (some (.inl x), h) := am_rE am_m125 d_125_65 rfl
theorem d_125_66 : am_code 125 66 = some (.aload_n 0, 1) := by decide +kernel
theorem s_125_66 (cl : am_C) (a1 a2 : Option am_V) (x : Nat) (st : List am_V) (h : am_H) : am_go0 cl 125 66 [some (.inr (.inr (some x))), a1, a2] st h = am_go0 cl 125 67 [some (.inr (.inr (some x))), a1, a2] (.inr (.inr (some x)) :: st) h := am_r am_m125 d_125_66 rfl
theorem d_125_67 : am_code 125 67 = some (.getfield 53, 3) := by decide +kernel
theorem s_125_67 (cl : am_C) (ls : am_Ls) (st : List am_V) (N : Nat) (I : Nat → Int → Int) (L : Nat → Int → Int64) : am_go0 cl 125 67 ls (.inr (.inr (some 1)) :: st) (am_GS N, am_GR, I, L) = am_go0 cl 125 70 ls (.inr (.inr (some 33)) :: st) (am_GS N, am_GR, I, L) := am_rG2 am_m125 d_125_67 am_f8053 rfl (gs_1 N) (by decide) gr_1_5 rfl
theorem d_125_70 : am_code 125 70 = some (.iload_n 1, 1) := by decide +kernel
theorem s_125_70 (cl : am_C) (a0 a2 : Option am_V) (x : Int) (st : List am_V) (h : am_H) : am_go0 cl 125 70 [a0, some (.inl x), a2] st h = am_go0 cl 125 71 [a0, some (.inl x), a2] (.inl x :: st) h := am_r am_m125 d_125_70 rfl
theorem d_125_71 : am_code 125 71 = some (.invokevirtual 149, 3) := by decide +kernel
theorem s_125_71 (cl : am_C) (ls : am_Ls) (x0 : Int) (N : Nat) (I : Nat → Int → Int) (L : Nat → Int → Int64) : am_go0 cl 125 71 ls [.inl x0, .inr (.inr (some 33))] (am_GS N, am_GR, I, L) = am_bd (cl 25 [.inr (.inr (some 33)), .inl x0] (am_GS N, am_GR, I, L)) (fun v h2 => am_go0 cl 125 74 ls (v.toList ++ []) h2) := am_rV am_m125 d_125_71 am_k8149 rfl am_m25 (gs_33 N) (by decide) (Nat.le_of_ble_eq_true rfl) rfl ls
theorem d_125_74 : am_code 125 74 = some (.ireturn, 1) := by decide +kernel
theorem s_125_74 (cl : am_C) (ls : am_Ls) (x : Int) (h : am_H) : am_go0 cl 125 74 ls [.inl x] h = some (some (.inl x), h) := am_rE am_m125 d_125_74 rfl
theorem d_125_75 : am_code 125 75 = some (.aload_n 0, 1) := by decide +kernel
theorem s_125_75 (cl : am_C) (a1 a2 : Option am_V) (x : Nat) (st : List am_V) (h : am_H) : am_go0 cl 125 75 [some (.inr (.inr (some x))), a1, a2] st h = am_go0 cl 125 76 [some (.inr (.inr (some x))), a1, a2] (.inr (.inr (some x)) :: st) h := am_r am_m125 d_125_75 rfl
theorem d_125_76 : am_code 125 76 = some (.getfield 53, 3) := by decide +kernel
theorem s_125_76 (cl : am_C) (ls : am_Ls) (st : List am_V) (N : Nat) (I : Nat → Int → Int) (L : Nat → Int → Int64) : am_go0 cl 125 76 ls (.inr (.inr (some 1)) :: st) (am_GS N, am_GR, I, L) = am_go0 cl 125 79 ls (.inr (.inr (some 33)) :: st) (am_GS N, am_GR, I, L) := am_rG2 am_m125 d_125_76 am_f8053 rfl (gs_1 N) (by decide) gr_1_5 rfl
theorem d_125_79 : am_code 125 79 = some (.iload_n 1, 1) := by decide +kernel
theorem s_125_79 (cl : am_C) (a0 a2 : Option am_V) (x : Int) (st : List am_V) (h : am_H) : am_go0 cl 125 79 [a0, some (.inl x), a2] st h = am_go0 cl 125 80 [a0, some (.inl x), a2] (.inl x :: st) h := am_r am_m125 d_125_79 rfl
theorem d_125_80 : am_code 125 80 = some (.invokevirtual 139, 3) := by decide +kernel
theorem s_125_80 (cl : am_C) (ls : am_Ls) (x0 : Int) (N : Nat) (I : Nat → Int → Int) (L : Nat → Int → Int64) : am_go0 cl 125 80 ls [.inl x0, .inr (.inr (some 33))] (am_GS N, am_GR, I, L) = am_bd (cl 16 [.inr (.inr (some 33)), .inl x0] (am_GS N, am_GR, I, L)) (fun v h2 => am_go0 cl 125 83 ls (v.toList ++ []) h2) := am_rV am_m125 d_125_80 am_k8139 rfl am_m16 (gs_33 N) (by decide) (Nat.le_of_ble_eq_true rfl) rfl ls
theorem d_125_83 : am_code 125 83 = some (.ireturn, 1) := by decide +kernel
theorem s_125_83 (cl : am_C) (ls : am_Ls) (x : Int) (h : am_H) : am_go0 cl 125 83 ls [.inl x] h = some (some (.inl x), h) := am_rE am_m125 d_125_83 rfl
theorem d_125_84 : am_code 125 84 = some (.aload_n 0, 1) := by decide +kernel
theorem s_125_84 (cl : am_C) (a1 a2 : Option am_V) (x : Nat) (st : List am_V) (h : am_H) : am_go0 cl 125 84 [some (.inr (.inr (some x))), a1, a2] st h = am_go0 cl 125 85 [some (.inr (.inr (some x))), a1, a2] (.inr (.inr (some x)) :: st) h := am_r am_m125 d_125_84 rfl
theorem d_125_85 : am_code 125 85 = some (.getfield 53, 3) := by decide +kernel
theorem s_125_85 (cl : am_C) (ls : am_Ls) (st : List am_V) (N : Nat) (I : Nat → Int → Int) (L : Nat → Int → Int64) : am_go0 cl 125 85 ls (.inr (.inr (some 1)) :: st) (am_GS N, am_GR, I, L) = am_go0 cl 125 88 ls (.inr (.inr (some 33)) :: st) (am_GS N, am_GR, I, L) := am_rG2 am_m125 d_125_85 am_f8053 rfl (gs_1 N) (by decide) gr_1_5 rfl
theorem d_125_88 : am_code 125 88 = some (.iload_n 1, 1) := by decide +kernel
theorem s_125_88 (cl : am_C) (a0 a2 : Option am_V) (x : Int) (st : List am_V) (h : am_H) : am_go0 cl 125 88 [a0, some (.inl x), a2] st h = am_go0 cl 125 89 [a0, some (.inl x), a2] (.inl x :: st) h := am_r am_m125 d_125_88 rfl
theorem d_125_89 : am_code 125 89 = some (.invokevirtual 152, 3) := by decide +kernel
theorem s_125_89 (cl : am_C) (ls : am_Ls) (x0 : Int) (N : Nat) (I : Nat → Int → Int) (L : Nat → Int → Int64) : am_go0 cl 125 89 ls [.inl x0, .inr (.inr (some 33))] (am_GS N, am_GR, I, L) = am_bd (cl 26 [.inr (.inr (some 33)), .inl x0] (am_GS N, am_GR, I, L)) (fun v h2 => am_go0 cl 125 92 ls (v.toList ++ []) h2) := am_rV am_m125 d_125_89 am_k8152 rfl am_m26 (gs_33 N) (by decide) (Nat.le_of_ble_eq_true rfl) rfl ls
theorem d_125_92 : am_code 125 92 = some (.ireturn, 1) := by decide +kernel
theorem s_125_92 (cl : am_C) (ls : am_Ls) (x : Int) (h : am_H) : am_go0 cl 125 92 ls [.inl x] h = some (some (.inl x), h) := am_rE am_m125 d_125_92 rfl
theorem d_125_93 : am_code 125 93 = some (.bipush (-2), 2) := by decide +kernel
theorem s_125_93 (cl : am_C) (ls : am_Ls) (st : List am_V) (h : am_H) : am_go0 cl 125 93 ls st h = am_go0 cl 125 95 ls (.inl (-2) :: st) h := am_rB am_m125 d_125_93 (by decide) rfl _ _ _
theorem d_125_95 : am_code 125 95 = some (.ireturn, 1) := by decide +kernel
theorem s_125_95 (cl : am_C) (ls : am_Ls) (x : Int) (h : am_H) : am_go0 cl 125 95 ls [.inl x] h = some (some (.inl x), h) := am_rE am_m125 d_125_95 rfl
theorem e_125 (d : Nat) (t : Nat) (p0 : Int) (p1 : Int) (h : am_H) : am_call (d + 1) 125 [.inr (.inr (some t)), .inl p0, .inl p1] h = am_go0 (am_call d) 125 0 [some (.inr (.inr (some t))), some (.inl p0), some (.inl p1)] [] h := am_callE am_m125 (Nat.le_of_ble_eq_true rfl) rfl
theorem d_126_0 : am_code 126 0 = some (.aload_n 0, 1) := by decide +kernel
theorem s_126_0 (cl : am_C) (a1 a2 : Option am_V) (x : Nat) (st : List am_V) (h : am_H) : am_go0 cl 126 0 [some (.inr (.inr (some x))), a1, a2] st h = am_go0 cl 126 1 [some (.inr (.inr (some x))), a1, a2] (.inr (.inr (some x)) :: st) h := am_r am_m126 d_126_0 rfl
theorem d_126_1 : am_code 126 1 = some (.iload_n 1, 1) := by decide +kernel
theorem s_126_1 (cl : am_C) (a0 a2 : Option am_V) (x : Int) (st : List am_V) (h : am_H) : am_go0 cl 126 1 [a0, some (.inl x), a2] st h = am_go0 cl 126 2 [a0, some (.inl x), a2] (.inl x :: st) h := am_r am_m126 d_126_1 rfl
theorem d_126_2 : am_code 126 2 = some (.iload_n 2, 1) := by decide +kernel
theorem s_126_2 (cl : am_C) (a0 a1 : Option am_V) (x : Int) (st : List am_V) (h : am_H) : am_go0 cl 126 2 [a0, a1, some (.inl x)] st h = am_go0 cl 126 3 [a0, a1, some (.inl x)] (.inl x :: st) h := am_r am_m126 d_126_2 rfl
theorem d_126_3 : am_code 126 3 = some (.invokevirtual 155, 3) := by decide +kernel
theorem s_126_3 (cl : am_C) (ls : am_Ls) (x0 : Int) (x1 : Int) (N : Nat) (I : Nat → Int → Int) (L : Nat → Int → Int64) : am_go0 cl 126 3 ls [.inl x1, .inl x0, .inr (.inr (some 1))] (am_GS N, am_GR, I, L) = am_bd (cl 127 [.inr (.inr (some 1)), .inl x0, .inl x1] (am_GS N, am_GR, I, L)) (fun v h2 => am_go0 cl 126 6 ls (v.toList ++ []) h2) := am_rV am_m126 d_126_3 am_k8155 rfl am_m127 (gs_1 N) (by decide) (Nat.le_of_ble_eq_true rfl) rfl ls
theorem d_126_6 : am_code 126 6 = some (.ifCond .ne 12, 3) := by decide +kernel
theorem s_126_6 (cl : am_C) (ls : am_Ls) (x : Int) (st : List am_V) (h : am_H) : am_go0 cl 126 6 ls (.inl x :: st) h = if x = 0 then am_go0 cl 126 9 ls st h else am_go0 cl 126 18 ls st h := (am_rJ1 am_m126 d_126_6 (by decide) rfl x ls st h).trans (am_ifF ((am_cmp_ne x 0).trans Iff.rfl) _ _)
theorem d_126_9 : am_code 126 9 = some (.aload_n 0, 1) := by decide +kernel
theorem s_126_9 (cl : am_C) (a1 a2 : Option am_V) (x : Nat) (st : List am_V) (h : am_H) : am_go0 cl 126 9 [some (.inr (.inr (some x))), a1, a2] st h = am_go0 cl 126 10 [some (.inr (.inr (some x))), a1, a2] (.inr (.inr (some x)) :: st) h := am_r am_m126 d_126_9 rfl
theorem d_126_10 : am_code 126 10 = some (.getfield 60, 3) := by decide +kernel
theorem s_126_10 (cl : am_C) (ls : am_Ls) (st : List am_V) (N : Nat) (I : Nat → Int → Int) (L : Nat → Int → Int64) : am_go0 cl 126 10 ls (.inr (.inr (some 1)) :: st) (am_GS N, am_GR, I, L) = am_go0 cl 126 13 ls (.inr (.inr (some 41)) :: st) (am_GS N, am_GR, I, L) := am_rG2 am_m126 d_126_10 am_f8060 rfl (gs_1 N) (by decide) gr_1_6 rfl
theorem d_126_13 : am_code 126 13 = some (.invokevirtual 156, 3) := by decide +kernel
theorem s_126_13 (cl : am_C) (ls : am_Ls) (N : Nat) (I : Nat → Int → Int) (L : Nat → Int → Int64) : am_go0 cl 126 13 ls [.inr (.inr (some 41))] (am_GS N, am_GR, I, L) = am_bd (cl 59 [.inr (.inr (some 41))] (am_GS N, am_GR, I, L)) (fun v h2 => am_go0 cl 126 16 ls (v.toList ++ []) h2) := am_rV am_m126 d_126_13 am_k8156 rfl am_m59 (gs_41 N) (by decide) (Nat.le_of_ble_eq_true rfl) rfl ls
theorem d_126_16 : am_code 126 16 = some (.lconst 0, 1) := by decide +kernel
theorem s_126_16 (cl : am_C) (ls : am_Ls) (st : List am_V) (h : am_H) : am_go0 cl 126 16 ls st h = am_go0 cl 126 17 ls (.inr (.inl 0) :: st) h := am_r am_m126 d_126_16 rfl
theorem d_126_17 : am_code 126 17 = some (.lreturn, 1) := by decide +kernel
theorem s_126_17 (cl : am_C) (ls : am_Ls) (x : Int64) (h : am_H) : am_go0 cl 126 17 ls [.inr (.inl x)] h = some (some (.inr (.inl x)), h) := am_rE am_m126 d_126_17 rfl
theorem d_126_18 : am_code 126 18 = some (.aload_n 0, 1) := by decide +kernel
theorem s_126_18 (cl : am_C) (a1 a2 : Option am_V) (x : Nat) (st : List am_V) (h : am_H) : am_go0 cl 126 18 [some (.inr (.inr (some x))), a1, a2] st h = am_go0 cl 126 19 [some (.inr (.inr (some x))), a1, a2] (.inr (.inr (some x)) :: st) h := am_r am_m126 d_126_18 rfl
theorem d_126_19 : am_code 126 19 = some (.getfield 69, 3) := by decide +kernel
theorem s_126_19 (cl : am_C) (ls : am_Ls) (st : List am_V) (N : Nat) (I : Nat → Int → Int) (L : Nat → Int → Int64) : am_go0 cl 126 19 ls (.inr (.inr (some 1)) :: st) (am_GS N, am_GR, I, L) = am_go0 cl 126 22 ls (.inr (.inr (some 44)) :: st) (am_GS N, am_GR, I, L) := am_rG2 am_m126 d_126_19 am_f8069 rfl (gs_1 N) (by decide) gr_1_7 rfl
theorem d_126_22 : am_code 126 22 = some (.iload_n 1, 1) := by decide +kernel
theorem s_126_22 (cl : am_C) (a0 a2 : Option am_V) (x : Int) (st : List am_V) (h : am_H) : am_go0 cl 126 22 [a0, some (.inl x), a2] st h = am_go0 cl 126 23 [a0, some (.inl x), a2] (.inl x :: st) h := am_r am_m126 d_126_22 rfl
theorem d_126_23 : am_code 126 23 = some (.iload_n 2, 1) := by decide +kernel
theorem s_126_23 (cl : am_C) (a0 a1 : Option am_V) (x : Int) (st : List am_V) (h : am_H) : am_go0 cl 126 23 [a0, a1, some (.inl x)] st h = am_go0 cl 126 24 [a0, a1, some (.inl x)] (.inl x :: st) h := am_r am_m126 d_126_23 rfl
theorem d_126_24 : am_code 126 24 = some (.invokevirtual 159, 3) := by decide +kernel
theorem s_126_24 (cl : am_C) (ls : am_Ls) (x0 : Int) (x1 : Int) (N : Nat) (I : Nat → Int → Int) (L : Nat → Int → Int64) : am_go0 cl 126 24 ls [.inl x1, .inl x0, .inr (.inr (some 44))] (am_GS N, am_GR, I, L) = am_bd (cl 97 [.inr (.inr (some 44)), .inl x0, .inl x1] (am_GS N, am_GR, I, L)) (fun v h2 => am_go0 cl 126 27 ls (v.toList ++ []) h2) := am_rV am_m126 d_126_24 am_k8159 rfl am_m97 (gs_44 N) (by decide) (Nat.le_of_ble_eq_true rfl) rfl ls
theorem d_126_27 : am_code 126 27 = some (.lreturn, 1) := by decide +kernel
theorem s_126_27 (cl : am_C) (ls : am_Ls) (x : Int64) (h : am_H) : am_go0 cl 126 27 ls [.inr (.inl x)] h = some (some (.inr (.inl x)), h) := am_rE am_m126 d_126_27 rfl
theorem e_126 (d : Nat) (t : Nat) (p0 : Int) (p1 : Int) (h : am_H) : am_call (d + 1) 126 [.inr (.inr (some t)), .inl p0, .inl p1] h = am_go0 (am_call d) 126 0 [some (.inr (.inr (some t))), some (.inl p0), some (.inl p1)] [] h := am_callE am_m126 (Nat.le_of_ble_eq_true rfl) rfl
theorem d_127_0 : am_code 127 0 = some (.aload_n 0, 1) := by decide +kernel
theorem s_127_0 (cl : am_C) (a1 a2 : Option am_V) (x : Nat) (st : List am_V) (h : am_H) : am_go0 cl 127 0 [some (.inr (.inr (some x))), a1, a2] st h = am_go0 cl 127 1 [some (.inr (.inr (some x))), a1, a2] (.inr (.inr (some x)) :: st) h := am_r am_m127 d_127_0 rfl
theorem d_127_1 : am_code 127 1 = some (.getfield 53, 3) := by decide +kernel
theorem s_127_1 (cl : am_C) (ls : am_Ls) (st : List am_V) (N : Nat) (I : Nat → Int → Int) (L : Nat → Int → Int64) : am_go0 cl 127 1 ls (.inr (.inr (some 1)) :: st) (am_GS N, am_GR, I, L) = am_go0 cl 127 4 ls (.inr (.inr (some 33)) :: st) (am_GS N, am_GR, I, L) := am_rG2 am_m127 d_127_1 am_f8053 rfl (gs_1 N) (by decide) gr_1_5 rfl
theorem d_127_4 : am_code 127 4 = some (.iload_n 1, 1) := by decide +kernel
theorem s_127_4 (cl : am_C) (a0 a2 : Option am_V) (x : Int) (st : List am_V) (h : am_H) : am_go0 cl 127 4 [a0, some (.inl x), a2] st h = am_go0 cl 127 5 [a0, some (.inl x), a2] (.inl x :: st) h := am_r am_m127 d_127_4 rfl
theorem d_127_5 : am_code 127 5 = some (.invokevirtual 138, 3) := by decide +kernel
theorem s_127_5 (cl : am_C) (ls : am_Ls) (x0 : Int) (N : Nat) (I : Nat → Int → Int) (L : Nat → Int → Int64) : am_go0 cl 127 5 ls [.inl x0, .inr (.inr (some 33))] (am_GS N, am_GR, I, L) = am_bd (cl 21 [.inr (.inr (some 33)), .inl x0] (am_GS N, am_GR, I, L)) (fun v h2 => am_go0 cl 127 8 ls (v.toList ++ []) h2) := am_rV am_m127 d_127_5 am_k8138 rfl am_m21 (gs_33 N) (by decide) (Nat.le_of_ble_eq_true rfl) rfl ls
theorem d_127_8 : am_code 127 8 = some (.ifCond .eq 26, 3) := by decide +kernel
theorem s_127_8 (cl : am_C) (ls : am_Ls) (x : Int) (st : List am_V) (h : am_H) : am_go0 cl 127 8 ls (.inl x :: st) h = if x = 0 then am_go0 cl 127 34 ls st h else am_go0 cl 127 11 ls st h := (am_rJ1 am_m127 d_127_8 (by decide) rfl x ls st h).trans (am_ifT (am_cmp_eq x 0) _ _)
theorem d_127_11 : am_code 127 11 = some (.aload_n 0, 1) := by decide +kernel
theorem s_127_11 (cl : am_C) (a1 a2 : Option am_V) (x : Nat) (st : List am_V) (h : am_H) : am_go0 cl 127 11 [some (.inr (.inr (some x))), a1, a2] st h = am_go0 cl 127 12 [some (.inr (.inr (some x))), a1, a2] (.inr (.inr (some x)) :: st) h := am_r am_m127 d_127_11 rfl
theorem d_127_12 : am_code 127 12 = some (.getfield 19, 3) := by decide +kernel
theorem s_127_12 (cl : am_C) (ls : am_Ls) (st : List am_V) (N : Nat) (I : Nat → Int → Int) (L : Nat → Int → Int64) : am_go0 cl 127 12 ls (.inr (.inr (some 1)) :: st) (am_GS N, am_GR, I, L) = am_go0 cl 127 15 ls (.inr (.inr (some 10)) :: st) (am_GS N, am_GR, I, L) := am_rG2 am_m127 d_127_12 am_f8019 rfl (gs_1 N) (by decide) gr_1_1 rfl
theorem d_127_15 : am_code 127 15 = some (.aload_n 0, 1) := by decide +kernel
theorem s_127_15 (cl : am_C) (a1 a2 : Option am_V) (x : Nat) (st : List am_V) (h : am_H) : am_go0 cl 127 15 [some (.inr (.inr (some x))), a1, a2] st h = am_go0 cl 127 16 [some (.inr (.inr (some x))), a1, a2] (.inr (.inr (some x)) :: st) h := am_r am_m127 d_127_15 rfl
theorem d_127_16 : am_code 127 16 = some (.getfield 53, 3) := by decide +kernel
theorem s_127_16 (cl : am_C) (ls : am_Ls) (st : List am_V) (N : Nat) (I : Nat → Int → Int) (L : Nat → Int → Int64) : am_go0 cl 127 16 ls (.inr (.inr (some 1)) :: st) (am_GS N, am_GR, I, L) = am_go0 cl 127 19 ls (.inr (.inr (some 33)) :: st) (am_GS N, am_GR, I, L) := am_rG2 am_m127 d_127_16 am_f8053 rfl (gs_1 N) (by decide) gr_1_5 rfl
theorem d_127_19 : am_code 127 19 = some (.iload_n 1, 1) := by decide +kernel
theorem s_127_19 (cl : am_C) (a0 a2 : Option am_V) (x : Int) (st : List am_V) (h : am_H) : am_go0 cl 127 19 [a0, some (.inl x), a2] st h = am_go0 cl 127 20 [a0, some (.inl x), a2] (.inl x :: st) h := am_r am_m127 d_127_19 rfl
theorem d_127_20 : am_code 127 20 = some (.invokevirtual 145, 3) := by decide +kernel
theorem s_127_20 (cl : am_C) (ls : am_Ls) (x0 : Int) (z0 : Nat) (N : Nat) (I : Nat → Int → Int) (L : Nat → Int → Int64) : am_go0 cl 127 20 ls [.inl x0, .inr (.inr (some 33)), .inr (.inr (some z0))] (am_GS N, am_GR, I, L) = am_bd (cl 23 [.inr (.inr (some 33)), .inl x0] (am_GS N, am_GR, I, L)) (fun v h2 => am_go0 cl 127 23 ls (v.toList ++ [.inr (.inr (some z0))]) h2) := am_rV am_m127 d_127_20 am_k8145 rfl am_m23 (gs_33 N) (by decide) (Nat.le_of_ble_eq_true rfl) rfl ls
theorem d_127_23 : am_code 127 23 = some (.iload_n 2, 1) := by decide +kernel
theorem s_127_23 (cl : am_C) (a0 a1 : Option am_V) (x : Int) (st : List am_V) (h : am_H) : am_go0 cl 127 23 [a0, a1, some (.inl x)] st h = am_go0 cl 127 24 [a0, a1, some (.inl x)] (.inl x :: st) h := am_r am_m127 d_127_23 rfl
theorem d_127_24 : am_code 127 24 = some (.invokevirtual 106, 3) := by decide +kernel
theorem s_127_24 (cl : am_C) (ls : am_Ls) (x0 : Int) (x1 : Int) (N : Nat) (I : Nat → Int → Int) (L : Nat → Int → Int64) : am_go0 cl 127 24 ls [.inl x1, .inl x0, .inr (.inr (some 10))] (am_GS N, am_GR, I, L) = am_bd (cl 6 [.inr (.inr (some 10)), .inl x0, .inl x1] (am_GS N, am_GR, I, L)) (fun v h2 => am_go0 cl 127 27 ls (v.toList ++ []) h2) := am_rV am_m127 d_127_24 am_k8106 rfl am_m6 (gs_10 N) (by decide) (Nat.le_of_ble_eq_true rfl) rfl ls
theorem d_127_27 : am_code 127 27 = some (.ifCond .eq 7, 3) := by decide +kernel
theorem s_127_27 (cl : am_C) (ls : am_Ls) (x : Int) (st : List am_V) (h : am_H) : am_go0 cl 127 27 ls (.inl x :: st) h = if x = 0 then am_go0 cl 127 34 ls st h else am_go0 cl 127 30 ls st h := (am_rJ1 am_m127 d_127_27 (by decide) rfl x ls st h).trans (am_ifT (am_cmp_eq x 0) _ _)
theorem d_127_30 : am_code 127 30 = some (.iconst 1, 1) := by decide +kernel
theorem s_127_30 (cl : am_C) (ls : am_Ls) (st : List am_V) (h : am_H) : am_go0 cl 127 30 ls st h = am_go0 cl 127 31 ls (.inl 1 :: st) h := am_rK am_m127 d_127_30 (by decide) rfl _ _ _
theorem d_127_31 : am_code 127 31 = some (.goto 4, 3) := by decide +kernel
theorem s_127_31 (cl : am_C) (ls : am_Ls) (st : List am_V) (h : am_H) : am_go0 cl 127 31 ls st h = am_go0 cl 127 35 ls st h := am_rGo am_m127 d_127_31 (by decide) _ _ _
theorem d_127_34 : am_code 127 34 = some (.iconst 0, 1) := by decide +kernel
theorem s_127_34 (cl : am_C) (ls : am_Ls) (st : List am_V) (h : am_H) : am_go0 cl 127 34 ls st h = am_go0 cl 127 35 ls (.inl 0 :: st) h := am_rK am_m127 d_127_34 (by decide) rfl _ _ _
theorem d_127_35 : am_code 127 35 = some (.ireturn, 1) := by decide +kernel
theorem s_127_35 (cl : am_C) (ls : am_Ls) (x : Int) (h : am_H) : am_go0 cl 127 35 ls [.inl x] h = if x = 0 ∨ x = 1 then some (some (.inl x), h) else none := am_rRz am_m127 d_127_35 x ls h
theorem e_127 (d : Nat) (t : Nat) (p0 : Int) (p1 : Int) (h : am_H) : am_call (d + 1) 127 [.inr (.inr (some t)), .inl p0, .inl p1] h = am_go0 (am_call d) 127 0 [some (.inr (.inr (some t))), some (.inl p0), some (.inl p1)] [] h := am_callE am_m127 (Nat.le_of_ble_eq_true rfl) rfl
theorem d_128_0 : am_code 128 0 = some (.iload_n 1, 1) := by decide +kernel
theorem s_128_0 (cl : am_C) (a0 : Option am_V) (x : Int) (st : List am_V) (h : am_H) : am_go0 cl 128 0 [a0, some (.inl x)] st h = am_go0 cl 128 1 [a0, some (.inl x)] (.inl x :: st) h := am_r am_m128 d_128_0 rfl
theorem d_128_1 : am_code 128 1 = some (.tableswitch 51 0 2 #[27, 35, 43], 27) := by decide +kernel
theorem s_128_1 (cl : am_C) (ls : am_Ls) (x : Int) (st : List am_V) (h : am_H) : am_go0 cl 128 1 ls (.inl x :: st) h = if x = 0 then am_go0 cl 128 28 ls st h else if x = 1 then am_go0 cl 128 36 ls st h else if x = 2 then am_go0 cl 128 44 ls st h else am_go0 cl 128 52 ls st h := by
  by_cases q0 : x = 0
  · subst q0; exact (am_rTs (27) am_m128 d_128_1 (by decide +kernel) (by decide) _ _ _).trans (if_pos rfl).symm
  rw [if_neg q0]
  by_cases q1 : x = 1
  · subst q1; exact (am_rTs (35) am_m128 d_128_1 (by decide +kernel) (by decide) _ _ _).trans (if_pos rfl).symm
  rw [if_neg q1]
  by_cases q2 : x = 2
  · subst q2; exact (am_rTs (43) am_m128 d_128_1 (by decide +kernel) (by decide) _ _ _).trans (if_pos rfl).symm
  rw [if_neg q2]
  exact am_rTs (51) am_m128 d_128_1 (am_sw_out (by omega)) (by decide) _ _ _
theorem d_128_28 : am_code 128 28 = some (.aload_n 0, 1) := by decide +kernel
theorem s_128_28 (cl : am_C) (a1 : Option am_V) (x : Nat) (st : List am_V) (h : am_H) : am_go0 cl 128 28 [some (.inr (.inr (some x))), a1] st h = am_go0 cl 128 29 [some (.inr (.inr (some x))), a1] (.inr (.inr (some x)) :: st) h := am_r am_m128 d_128_28 rfl
theorem d_128_29 : am_code 128 29 = some (.getfield 60, 3) := by decide +kernel
theorem s_128_29 (cl : am_C) (ls : am_Ls) (st : List am_V) (N : Nat) (I : Nat → Int → Int) (L : Nat → Int → Int64) : am_go0 cl 128 29 ls (.inr (.inr (some 1)) :: st) (am_GS N, am_GR, I, L) = am_go0 cl 128 32 ls (.inr (.inr (some 41)) :: st) (am_GS N, am_GR, I, L) := am_rG2 am_m128 d_128_29 am_f8060 rfl (gs_1 N) (by decide) gr_1_6 rfl
theorem d_128_32 : am_code 128 32 = some (.invokevirtual 163, 3) := by decide +kernel
theorem s_128_32 (cl : am_C) (ls : am_Ls) (N : Nat) (I : Nat → Int → Int) (L : Nat → Int → Int64) : am_go0 cl 128 32 ls [.inr (.inr (some 41))] (am_GS N, am_GR, I, L) = am_bd (cl 63 [.inr (.inr (some 41))] (am_GS N, am_GR, I, L)) (fun v h2 => am_go0 cl 128 35 ls (v.toList ++ []) h2) := am_rV am_m128 d_128_32 am_k8163 rfl am_m63 (gs_41 N) (by decide) (Nat.le_of_ble_eq_true rfl) rfl ls
theorem d_128_35 : am_code 128 35 = some (.ireturn, 1) := by decide +kernel
theorem s_128_35 (cl : am_C) (ls : am_Ls) (x : Int) (h : am_H) : am_go0 cl 128 35 ls [.inl x] h = some (some (.inl x), h) := am_rE am_m128 d_128_35 rfl
theorem d_128_36 : am_code 128 36 = some (.aload_n 0, 1) := by decide +kernel
theorem s_128_36 (cl : am_C) (a1 : Option am_V) (x : Nat) (st : List am_V) (h : am_H) : am_go0 cl 128 36 [some (.inr (.inr (some x))), a1] st h = am_go0 cl 128 37 [some (.inr (.inr (some x))), a1] (.inr (.inr (some x)) :: st) h := am_r am_m128 d_128_36 rfl
theorem d_128_37 : am_code 128 37 = some (.getfield 60, 3) := by decide +kernel
theorem s_128_37 (cl : am_C) (ls : am_Ls) (st : List am_V) (N : Nat) (I : Nat → Int → Int) (L : Nat → Int → Int64) : am_go0 cl 128 37 ls (.inr (.inr (some 1)) :: st) (am_GS N, am_GR, I, L) = am_go0 cl 128 40 ls (.inr (.inr (some 41)) :: st) (am_GS N, am_GR, I, L) := am_rG2 am_m128 d_128_37 am_f8060 rfl (gs_1 N) (by decide) gr_1_6 rfl
theorem d_128_40 : am_code 128 40 = some (.invokevirtual 166, 3) := by decide +kernel
theorem s_128_40 (cl : am_C) (ls : am_Ls) (N : Nat) (I : Nat → Int → Int) (L : Nat → Int → Int64) : am_go0 cl 128 40 ls [.inr (.inr (some 41))] (am_GS N, am_GR, I, L) = am_bd (cl 64 [.inr (.inr (some 41))] (am_GS N, am_GR, I, L)) (fun v h2 => am_go0 cl 128 43 ls (v.toList ++ []) h2) := am_rV am_m128 d_128_40 am_k8166 rfl am_m64 (gs_41 N) (by decide) (Nat.le_of_ble_eq_true rfl) rfl ls
theorem d_128_43 : am_code 128 43 = some (.ireturn, 1) := by decide +kernel
theorem s_128_43 (cl : am_C) (ls : am_Ls) (x : Int) (h : am_H) : am_go0 cl 128 43 ls [.inl x] h = some (some (.inl x), h) := am_rE am_m128 d_128_43 rfl
theorem d_128_44 : am_code 128 44 = some (.aload_n 0, 1) := by decide +kernel
theorem s_128_44 (cl : am_C) (a1 : Option am_V) (x : Nat) (st : List am_V) (h : am_H) : am_go0 cl 128 44 [some (.inr (.inr (some x))), a1] st h = am_go0 cl 128 45 [some (.inr (.inr (some x))), a1] (.inr (.inr (some x)) :: st) h := am_r am_m128 d_128_44 rfl
theorem d_128_45 : am_code 128 45 = some (.getfield 60, 3) := by decide +kernel
theorem s_128_45 (cl : am_C) (ls : am_Ls) (st : List am_V) (N : Nat) (I : Nat → Int → Int) (L : Nat → Int → Int64) : am_go0 cl 128 45 ls (.inr (.inr (some 1)) :: st) (am_GS N, am_GR, I, L) = am_go0 cl 128 48 ls (.inr (.inr (some 41)) :: st) (am_GS N, am_GR, I, L) := am_rG2 am_m128 d_128_45 am_f8060 rfl (gs_1 N) (by decide) gr_1_6 rfl
theorem d_128_48 : am_code 128 48 = some (.invokevirtual 169, 3) := by decide +kernel
theorem s_128_48 (cl : am_C) (ls : am_Ls) (N : Nat) (I : Nat → Int → Int) (L : Nat → Int → Int64) : am_go0 cl 128 48 ls [.inr (.inr (some 41))] (am_GS N, am_GR, I, L) = am_bd (cl 65 [.inr (.inr (some 41))] (am_GS N, am_GR, I, L)) (fun v h2 => am_go0 cl 128 51 ls (v.toList ++ []) h2) := am_rV am_m128 d_128_48 am_k8169 rfl am_m65 (gs_41 N) (by decide) (Nat.le_of_ble_eq_true rfl) rfl ls
theorem d_128_51 : am_code 128 51 = some (.ireturn, 1) := by decide +kernel
theorem s_128_51 (cl : am_C) (ls : am_Ls) (x : Int) (h : am_H) : am_go0 cl 128 51 ls [.inl x] h = some (some (.inl x), h) := am_rE am_m128 d_128_51 rfl
theorem d_128_52 : am_code 128 52 = some (.bipush (-2), 2) := by decide +kernel
theorem s_128_52 (cl : am_C) (ls : am_Ls) (st : List am_V) (h : am_H) : am_go0 cl 128 52 ls st h = am_go0 cl 128 54 ls (.inl (-2) :: st) h := am_rB am_m128 d_128_52 (by decide) rfl _ _ _
theorem d_128_54 : am_code 128 54 = some (.ireturn, 1) := by decide +kernel
theorem s_128_54 (cl : am_C) (ls : am_Ls) (x : Int) (h : am_H) : am_go0 cl 128 54 ls [.inl x] h = some (some (.inl x), h) := am_rE am_m128 d_128_54 rfl
theorem e_128 (d : Nat) (t : Nat) (p0 : Int) (h : am_H) : am_call (d + 1) 128 [.inr (.inr (some t)), .inl p0] h = am_go0 (am_call d) 128 0 [some (.inr (.inr (some t))), some (.inl p0)] [] h := am_callE am_m128 (Nat.le_of_ble_eq_true rfl) rfl
theorem d_129_0 : am_code 129 0 = some (.iload_n 2, 1) := by decide +kernel
theorem s_129_0 (cl : am_C) (a0 a1 : Option am_V) (x : Int) (st : List am_V) (h : am_H) : am_go0 cl 129 0 [a0, a1, some (.inl x)] st h = am_go0 cl 129 1 [a0, a1, some (.inl x)] (.inl x :: st) h := am_r am_m129 d_129_0 rfl
theorem d_129_1 : am_code 129 1 = some (.lookupswitch 45 #[(0, 27), (1, 36)], 27) := by decide +kernel
theorem s_129_1 (cl : am_C) (ls : am_Ls) (x : Int) (st : List am_V) (h : am_H) : am_go0 cl 129 1 ls (.inl x :: st) h = if x = 0 then am_go0 cl 129 28 ls st h else if x = 1 then am_go0 cl 129 37 ls st h else am_go0 cl 129 46 ls st h := by
  by_cases q0 : x = 0
  · subst q0; exact (am_rLs am_m129 d_129_1 (by decide +kernel) (by decide +kernel) _ _ _).trans (if_pos rfl).symm
  rw [if_neg q0]
  by_cases q1 : x = 1
  · subst q1; exact (am_rLs am_m129 d_129_1 (by decide +kernel) (by decide +kernel) _ _ _).trans (if_pos rfl).symm
  rw [if_neg q1]
  exact am_rLs am_m129 d_129_1 (by decide +kernel) (by simp [Op.lookupswitch.offset, q0, q1, Ne.symm q0, Ne.symm q1]) _ _ _
theorem d_129_28 : am_code 129 28 = some (.aload_n 0, 1) := by decide +kernel
theorem s_129_28 (cl : am_C) (a1 a2 : Option am_V) (x : Nat) (st : List am_V) (h : am_H) : am_go0 cl 129 28 [some (.inr (.inr (some x))), a1, a2] st h = am_go0 cl 129 29 [some (.inr (.inr (some x))), a1, a2] (.inr (.inr (some x)) :: st) h := am_r am_m129 d_129_28 rfl
theorem d_129_29 : am_code 129 29 = some (.getfield 60, 3) := by decide +kernel
theorem s_129_29 (cl : am_C) (ls : am_Ls) (st : List am_V) (N : Nat) (I : Nat → Int → Int) (L : Nat → Int → Int64) : am_go0 cl 129 29 ls (.inr (.inr (some 1)) :: st) (am_GS N, am_GR, I, L) = am_go0 cl 129 32 ls (.inr (.inr (some 41)) :: st) (am_GS N, am_GR, I, L) := am_rG2 am_m129 d_129_29 am_f8060 rfl (gs_1 N) (by decide) gr_1_6 rfl
theorem d_129_32 : am_code 129 32 = some (.iload_n 1, 1) := by decide +kernel
theorem s_129_32 (cl : am_C) (a0 a2 : Option am_V) (x : Int) (st : List am_V) (h : am_H) : am_go0 cl 129 32 [a0, some (.inl x), a2] st h = am_go0 cl 129 33 [a0, some (.inl x), a2] (.inl x :: st) h := am_r am_m129 d_129_32 rfl
theorem d_129_33 : am_code 129 33 = some (.invokevirtual 172, 3) := by decide +kernel
theorem s_129_33 (cl : am_C) (ls : am_Ls) (x0 : Int) (N : Nat) (I : Nat → Int → Int) (L : Nat → Int → Int64) : am_go0 cl 129 33 ls [.inl x0, .inr (.inr (some 41))] (am_GS N, am_GR, I, L) = am_bd (cl 66 [.inr (.inr (some 41)), .inl x0] (am_GS N, am_GR, I, L)) (fun v h2 => am_go0 cl 129 36 ls (v.toList ++ []) h2) := am_rV am_m129 d_129_33 am_k8172 rfl am_m66 (gs_41 N) (by decide) (Nat.le_of_ble_eq_true rfl) rfl ls
theorem d_129_36 : am_code 129 36 = some (.ireturn, 1) := by decide +kernel
theorem s_129_36 (cl : am_C) (ls : am_Ls) (x : Int) (h : am_H) : am_go0 cl 129 36 ls [.inl x] h = some (some (.inl x), h) := am_rE am_m129 d_129_36 rfl
theorem d_129_37 : am_code 129 37 = some (.aload_n 0, 1) := by decide +kernel
theorem s_129_37 (cl : am_C) (a1 a2 : Option am_V) (x : Nat) (st : List am_V) (h : am_H) : am_go0 cl 129 37 [some (.inr (.inr (some x))), a1, a2] st h = am_go0 cl 129 38 [some (.inr (.inr (some x))), a1, a2] (.inr (.inr (some x)) :: st) h := am_r am_m129 d_129_37 rfl
theorem d_129_38 : am_code 129 38 = some (.getfield 60, 3) := by decide +kernel
theorem s_129_38 (cl : am_C) (ls : am_Ls) (st : List am_V) (N : Nat) (I : Nat → Int → Int) (L : Nat → Int → Int64) : am_go0 cl 129 38 ls (.inr (.inr (some 1)) :: st) (am_GS N, am_GR, I, L) = am_go0 cl 129 41 ls (.inr (.inr (some 41)) :: st) (am_GS N, am_GR, I, L) := am_rG2 am_m129 d_129_38 am_f8060 rfl (gs_1 N) (by decide) gr_1_6 rfl
theorem d_129_41 : am_code 129 41 = some (.iload_n 1, 1) := by decide +kernel
theorem s_129_41 (cl : am_C) (a0 a2 : Option am_V) (x : Int) (st : List am_V) (h : am_H) : am_go0 cl 129 41 [a0, some (.inl x), a2] st h = am_go0 cl 129 42 [a0, some (.inl x), a2] (.inl x :: st) h := am_r am_m129 d_129_41 rfl
theorem d_129_42 : am_code 129 42 = some (.invokevirtual 175, 3) := by decide +kernel
theorem s_129_42 (cl : am_C) (ls : am_Ls) (x0 : Int) (N : Nat) (I : Nat → Int → Int) (L : Nat → Int → Int64) : am_go0 cl 129 42 ls [.inl x0, .inr (.inr (some 41))] (am_GS N, am_GR, I, L) = am_bd (cl 67 [.inr (.inr (some 41)), .inl x0] (am_GS N, am_GR, I, L)) (fun v h2 => am_go0 cl 129 45 ls (v.toList ++ []) h2) := am_rV am_m129 d_129_42 am_k8175 rfl am_m67 (gs_41 N) (by decide) (Nat.le_of_ble_eq_true rfl) rfl ls
theorem d_129_45 : am_code 129 45 = some (.ireturn, 1) := by decide +kernel
theorem s_129_45 (cl : am_C) (ls : am_Ls) (x : Int) (h : am_H) : am_go0 cl 129 45 ls [.inl x] h = some (some (.inl x), h) := am_rE am_m129 d_129_45 rfl
theorem d_129_46 : am_code 129 46 = some (.bipush (-2), 2) := by decide +kernel
theorem s_129_46 (cl : am_C) (ls : am_Ls) (st : List am_V) (h : am_H) : am_go0 cl 129 46 ls st h = am_go0 cl 129 48 ls (.inl (-2) :: st) h := am_rB am_m129 d_129_46 (by decide) rfl _ _ _
theorem d_129_48 : am_code 129 48 = some (.ireturn, 1) := by decide +kernel
theorem s_129_48 (cl : am_C) (ls : am_Ls) (x : Int) (h : am_H) : am_go0 cl 129 48 ls [.inl x] h = some (some (.inl x), h) := am_rE am_m129 d_129_48 rfl
theorem e_129 (d : Nat) (t : Nat) (p0 : Int) (p1 : Int) (h : am_H) : am_call (d + 1) 129 [.inr (.inr (some t)), .inl p0, .inl p1] h = am_go0 (am_call d) 129 0 [some (.inr (.inr (some t))), some (.inl p0), some (.inl p1)] [] h := am_callE am_m129 (Nat.le_of_ble_eq_true rfl) rfl
theorem d_130_0 : am_code 130 0 = some (.aload_n 0, 1) := by decide +kernel
theorem s_130_0 (cl : am_C) (a1 a2 : Option am_V) (x : Nat) (st : List am_V) (h : am_H) : am_go0 cl 130 0 [some (.inr (.inr (some x))), a1, a2] st h = am_go0 cl 130 1 [some (.inr (.inr (some x))), a1, a2] (.inr (.inr (some x)) :: st) h := am_r am_m130 d_130_0 rfl
theorem d_130_1 : am_code 130 1 = some (.iload_n 1, 1) := by decide +kernel
theorem s_130_1 (cl : am_C) (a0 a2 : Option am_V) (x : Int) (st : List am_V) (h : am_H) : am_go0 cl 130 1 [a0, some (.inl x), a2] st h = am_go0 cl 130 2 [a0, some (.inl x), a2] (.inl x :: st) h := am_r am_m130 d_130_1 rfl
theorem d_130_2 : am_code 130 2 = some (.iload_n 2, 1) := by decide +kernel
theorem s_130_2 (cl : am_C) (a0 a1 : Option am_V) (x : Int) (st : List am_V) (h : am_H) : am_go0 cl 130 2 [a0, a1, some (.inl x)] st h = am_go0 cl 130 3 [a0, a1, some (.inl x)] (.inl x :: st) h := am_r am_m130 d_130_2 rfl
theorem d_130_3 : am_code 130 3 = some (.invokevirtual 155, 3) := by decide +kernel
theorem s_130_3 (cl : am_C) (ls : am_Ls) (x0 : Int) (x1 : Int) (N : Nat) (I : Nat → Int → Int) (L : Nat → Int → Int64) : am_go0 cl 130 3 ls [.inl x1, .inl x0, .inr (.inr (some 1))] (am_GS N, am_GR, I, L) = am_bd (cl 127 [.inr (.inr (some 1)), .inl x0, .inl x1] (am_GS N, am_GR, I, L)) (fun v h2 => am_go0 cl 130 6 ls (v.toList ++ []) h2) := am_rV am_m130 d_130_3 am_k8155 rfl am_m127 (gs_1 N) (by decide) (Nat.le_of_ble_eq_true rfl) rfl ls
theorem d_130_6 : am_code 130 6 = some (.ifCond .eq 15, 3) := by decide +kernel
theorem s_130_6 (cl : am_C) (ls : am_Ls) (x : Int) (st : List am_V) (h : am_H) : am_go0 cl 130 6 ls (.inl x :: st) h = if x = 0 then am_go0 cl 130 21 ls st h else am_go0 cl 130 9 ls st h := (am_rJ1 am_m130 d_130_6 (by decide) rfl x ls st h).trans (am_ifT (am_cmp_eq x 0) _ _)
theorem d_130_9 : am_code 130 9 = some (.aload_n 0, 1) := by decide +kernel
theorem s_130_9 (cl : am_C) (a1 a2 : Option am_V) (x : Nat) (st : List am_V) (h : am_H) : am_go0 cl 130 9 [some (.inr (.inr (some x))), a1, a2] st h = am_go0 cl 130 10 [some (.inr (.inr (some x))), a1, a2] (.inr (.inr (some x)) :: st) h := am_r am_m130 d_130_9 rfl
theorem d_130_10 : am_code 130 10 = some (.getfield 44, 3) := by decide +kernel
theorem s_130_10 (cl : am_C) (ls : am_Ls) (st : List am_V) (N : Nat) (I : Nat → Int → Int) (L : Nat → Int → Int64) : am_go0 cl 130 10 ls (.inr (.inr (some 1)) :: st) (am_GS N, am_GR, I, L) = am_go0 cl 130 13 ls (.inr (.inr (some 29)) :: st) (am_GS N, am_GR, I, L) := am_rG2 am_m130 d_130_10 am_f8044 rfl (gs_1 N) (by decide) gr_1_4 rfl
theorem d_130_13 : am_code 130 13 = some (.iload_n 1, 1) := by decide +kernel
theorem s_130_13 (cl : am_C) (a0 a2 : Option am_V) (x : Int) (st : List am_V) (h : am_H) : am_go0 cl 130 13 [a0, some (.inl x), a2] st h = am_go0 cl 130 14 [a0, some (.inl x), a2] (.inl x :: st) h := am_r am_m130 d_130_13 rfl
theorem d_130_14 : am_code 130 14 = some (.iload_n 2, 1) := by decide +kernel
theorem s_130_14 (cl : am_C) (a0 a1 : Option am_V) (x : Int) (st : List am_V) (h : am_H) : am_go0 cl 130 14 [a0, a1, some (.inl x)] st h = am_go0 cl 130 15 [a0, a1, some (.inl x)] (.inl x :: st) h := am_r am_m130 d_130_14 rfl
theorem d_130_15 : am_code 130 15 = some (.invokevirtual 178, 3) := by decide +kernel
theorem s_130_15 (cl : am_C) (ls : am_Ls) (x0 : Int) (x1 : Int) (N : Nat) (I : Nat → Int → Int) (L : Nat → Int → Int64) : am_go0 cl 130 15 ls [.inl x1, .inl x0, .inr (.inr (some 29))] (am_GS N, am_GR, I, L) = am_bd (cl 95 [.inr (.inr (some 29)), .inl x0, .inl x1] (am_GS N, am_GR, I, L)) (fun v h2 => am_go0 cl 130 18 ls (v.toList ++ []) h2) := am_rV am_m130 d_130_15 am_k8178 rfl am_m95 (gs_29 N) (by decide) (Nat.le_of_ble_eq_true rfl) rfl ls
theorem d_130_18 : am_code 130 18 = some (.goto 5, 3) := by decide +kernel
theorem s_130_18 (cl : am_C) (ls : am_Ls) (st : List am_V) (h : am_H) : am_go0 cl 130 18 ls st h = am_go0 cl 130 23 ls st h := am_rGo am_m130 d_130_18 (by decide) _ _ _
theorem d_130_21 : am_code 130 21 = some (.bipush (-2), 2) := by decide +kernel
theorem s_130_21 (cl : am_C) (ls : am_Ls) (st : List am_V) (h : am_H) : am_go0 cl 130 21 ls st h = am_go0 cl 130 23 ls (.inl (-2) :: st) h := am_rB am_m130 d_130_21 (by decide) rfl _ _ _
theorem d_130_23 : am_code 130 23 = some (.ireturn, 1) := by decide +kernel
theorem s_130_23 (cl : am_C) (ls : am_Ls) (x : Int) (h : am_H) : am_go0 cl 130 23 ls [.inl x] h = some (some (.inl x), h) := am_rE am_m130 d_130_23 rfl
theorem e_130 (d : Nat) (t : Nat) (p0 : Int) (p1 : Int) (h : am_H) : am_call (d + 1) 130 [.inr (.inr (some t)), .inl p0, .inl p1] h = am_go0 (am_call d) 130 0 [some (.inr (.inr (some t))), some (.inl p0), some (.inl p1)] [] h := am_callE am_m130 (Nat.le_of_ble_eq_true rfl) rfl
theorem d_131_0 : am_code 131 0 = some (.aload_n 0, 1) := by decide +kernel
theorem s_131_0 (cl : am_C) (a1 a2 : Option am_V) (x : Nat) (st : List am_V) (h : am_H) : am_go0 cl 131 0 [some (.inr (.inr (some x))), a1, a2] st h = am_go0 cl 131 1 [some (.inr (.inr (some x))), a1, a2] (.inr (.inr (some x)) :: st) h := am_r am_m131 d_131_0 rfl
theorem d_131_1 : am_code 131 1 = some (.getfield 10, 3) := by decide +kernel
theorem s_131_1 (cl : am_C) (ls : am_Ls) (st : List am_V) (N : Nat) (I : Nat → Int → Int) (L : Nat → Int → Int64) : am_go0 cl 131 1 ls (.inr (.inr (some 1)) :: st) (am_GS N, am_GR, I, L) = am_go0 cl 131 4 ls (.inr (.inr (some 2)) :: st) (am_GS N, am_GR, I, L) := am_rG2 am_m131 d_131_1 am_f8010 rfl (gs_1 N) (by decide) gr_1_0 rfl
theorem d_131_4 : am_code 131 4 = some (.iload_n 1, 1) := by decide +kernel
theorem s_131_4 (cl : am_C) (a0 a2 : Option am_V) (x : Int) (st : List am_V) (h : am_H) : am_go0 cl 131 4 [a0, some (.inl x), a2] st h = am_go0 cl 131 5 [a0, some (.inl x), a2] (.inl x :: st) h := am_r am_m131 d_131_4 rfl
theorem d_131_5 : am_code 131 5 = some (.invokevirtual 124, 3) := by decide +kernel
theorem s_131_5 (cl : am_C) (ls : am_Ls) (x0 : Int) (N : Nat) (I : Nat → Int → Int) (L : Nat → Int → Int64) : am_go0 cl 131 5 ls [.inl x0, .inr (.inr (some 2))] (am_GS N, am_GR, I, L) = am_bd (cl 74 [.inr (.inr (some 2)), .inl x0] (am_GS N, am_GR, I, L)) (fun v h2 => am_go0 cl 131 8 ls (v.toList ++ []) h2) := am_rV am_m131 d_131_5 am_k8124 rfl am_m74 (gs_2 N) (by decide) (Nat.le_of_ble_eq_true rfl) rfl ls
theorem d_131_8 : am_code 131 8 = some (.ifCond .ne 6, 3) := by decide +kernel
theorem s_131_8 (cl : am_C) (ls : am_Ls) (x : Int) (st : List am_V) (h : am_H) : am_go0 cl 131 8 ls (.inl x :: st) h = if x = 0 then am_go0 cl 131 11 ls st h else am_go0 cl 131 14 ls st h := (am_rJ1 am_m131 d_131_8 (by decide) rfl x ls st h).trans (am_ifF ((am_cmp_ne x 0).trans Iff.rfl) _ _)
theorem d_131_11 : am_code 131 11 = some (.bipush (-2), 2) := by decide +kernel
theorem s_131_11 (cl : am_C) (ls : am_Ls) (st : List am_V) (h : am_H) : am_go0 cl 131 11 ls st h = am_go0 cl 131 13 ls (.inl (-2) :: st) h := am_rB am_m131 d_131_11 (by decide) rfl _ _ _
theorem d_131_13 : am_code 131 13 = some (.ireturn, 1) := by decide +kernel
theorem s_131_13 (cl : am_C) (ls : am_Ls) (x : Int) (h : am_H) : am_go0 cl 131 13 ls [.inl x] h = some (some (.inl x), h) := am_rE am_m131 d_131_13 rfl
theorem d_131_14 : am_code 131 14 = some (.iload_n 2, 1) := by decide +kernel
theorem s_131_14 (cl : am_C) (a0 a1 : Option am_V) (x : Int) (st : List am_V) (h : am_H) : am_go0 cl 131 14 [a0, a1, some (.inl x)] st h = am_go0 cl 131 15 [a0, a1, some (.inl x)] (.inl x :: st) h := am_r am_m131 d_131_14 rfl
theorem d_131_15 : am_code 131 15 = some (.tableswitch 75 0 3 #[29, 38, 48, 58], 29) := by decide +kernel
theorem s_131_15 (cl : am_C) (ls : am_Ls) (x : Int) (st : List am_V) (h : am_H) : am_go0 cl 131 15 ls (.inl x :: st) h = if x = 0 then am_go0 cl 131 44 ls st h else if x = 1 then am_go0 cl 131 53 ls st h else if x = 2 then am_go0 cl 131 63 ls st h else if x = 3 then am_go0 cl 131 73 ls st h else am_go0 cl 131 90 ls st h := by
  by_cases q0 : x = 0
  · subst q0; exact (am_rTs (29) am_m131 d_131_15 (by decide +kernel) (by decide) _ _ _).trans (if_pos rfl).symm
  rw [if_neg q0]
  by_cases q1 : x = 1
  · subst q1; exact (am_rTs (38) am_m131 d_131_15 (by decide +kernel) (by decide) _ _ _).trans (if_pos rfl).symm
  rw [if_neg q1]
  by_cases q2 : x = 2
  · subst q2; exact (am_rTs (48) am_m131 d_131_15 (by decide +kernel) (by decide) _ _ _).trans (if_pos rfl).symm
  rw [if_neg q2]
  by_cases q3 : x = 3
  · subst q3; exact (am_rTs (58) am_m131 d_131_15 (by decide +kernel) (by decide) _ _ _).trans (if_pos rfl).symm
  rw [if_neg q3]
  exact am_rTs (75) am_m131 d_131_15 (am_sw_out (by omega)) (by decide) _ _ _
theorem d_131_44 : am_code 131 44 = some (.aload_n 0, 1) := by decide +kernel
theorem s_131_44 (cl : am_C) (a1 a2 : Option am_V) (x : Nat) (st : List am_V) (h : am_H) : am_go0 cl 131 44 [some (.inr (.inr (some x))), a1, a2] st h = am_go0 cl 131 45 [some (.inr (.inr (some x))), a1, a2] (.inr (.inr (some x)) :: st) h := am_r am_m131 d_131_44 rfl
theorem d_131_45 : am_code 131 45 = some (.getfield 10, 3) := by decide +kernel
theorem s_131_45 (cl : am_C) (ls : am_Ls) (st : List am_V) (N : Nat) (I : Nat → Int → Int) (L : Nat → Int → Int64) : am_go0 cl 131 45 ls (.inr (.inr (some 1)) :: st) (am_GS N, am_GR, I, L) = am_go0 cl 131 48 ls (.inr (.inr (some 2)) :: st) (am_GS N, am_GR, I, L) := am_rG2 am_m131 d_131_45 am_f8010 rfl (gs_1 N) (by decide) gr_1_0 rfl
theorem d_131_48 : am_code 131 48 = some (.iload_n 1, 1) := by decide +kernel
theorem s_131_48 (cl : am_C) (a0 a2 : Option am_V) (x : Int) (st : List am_V) (h : am_H) : am_go0 cl 131 48 [a0, some (.inl x), a2] st h = am_go0 cl 131 49 [a0, some (.inl x), a2] (.inl x :: st) h := am_r am_m131 d_131_48 rfl
theorem d_131_49 : am_code 131 49 = some (.invokevirtual 181, 3) := by decide +kernel
theorem s_131_49 (cl : am_C) (ls : am_Ls) (x0 : Int) (N : Nat) (I : Nat → Int → Int) (L : Nat → Int → Int64) : am_go0 cl 131 49 ls [.inl x0, .inr (.inr (some 2))] (am_GS N, am_GR, I, L) = am_bd (cl 79 [.inr (.inr (some 2)), .inl x0] (am_GS N, am_GR, I, L)) (fun v h2 => am_go0 cl 131 52 ls (v.toList ++ []) h2) := am_rV am_m131 d_131_49 am_k8181 rfl am_m79 (gs_2 N) (by decide) (Nat.le_of_ble_eq_true rfl) rfl ls
theorem d_131_52 : am_code 131 52 = some (.ireturn, 1) := by decide +kernel
theorem s_131_52 (cl : am_C) (ls : am_Ls) (x : Int) (h : am_H) : am_go0 cl 131 52 ls [.inl x] h = some (some (.inl x), h) := am_rE am_m131 d_131_52 rfl
theorem d_131_53 : am_code 131 53 = some (.aload_n 0, 1) := by decide +kernel
theorem s_131_53 (cl : am_C) (a1 a2 : Option am_V) (x : Nat) (st : List am_V) (h : am_H) : am_go0 cl 131 53 [some (.inr (.inr (some x))), a1, a2] st h = am_go0 cl 131 54 [some (.inr (.inr (some x))), a1, a2] (.inr (.inr (some x)) :: st) h := am_r am_m131 d_131_53 rfl
theorem d_131_54 : am_code 131 54 = some (.getfield 10, 3) := by decide +kernel
theorem s_131_54 (cl : am_C) (ls : am_Ls) (st : List am_V) (N : Nat) (I : Nat → Int → Int) (L : Nat → Int → Int64) : am_go0 cl 131 54 ls (.inr (.inr (some 1)) :: st) (am_GS N, am_GR, I, L) = am_go0 cl 131 57 ls (.inr (.inr (some 2)) :: st) (am_GS N, am_GR, I, L) := am_rG2 am_m131 d_131_54 am_f8010 rfl (gs_1 N) (by decide) gr_1_0 rfl
theorem d_131_57 : am_code 131 57 = some (.iload_n 1, 1) := by decide +kernel
theorem s_131_57 (cl : am_C) (a0 a2 : Option am_V) (x : Int) (st : List am_V) (h : am_H) : am_go0 cl 131 57 [a0, some (.inl x), a2] st h = am_go0 cl 131 58 [a0, some (.inl x), a2] (.inl x :: st) h := am_r am_m131 d_131_57 rfl
theorem d_131_58 : am_code 131 58 = some (.iconst 0, 1) := by decide +kernel
theorem s_131_58 (cl : am_C) (ls : am_Ls) (st : List am_V) (h : am_H) : am_go0 cl 131 58 ls st h = am_go0 cl 131 59 ls (.inl 0 :: st) h := am_rK am_m131 d_131_58 (by decide) rfl _ _ _
theorem d_131_59 : am_code 131 59 = some (.invokevirtual 184, 3) := by decide +kernel
theorem s_131_59 (cl : am_C) (ls : am_Ls) (x0 : Int) (x1 : Int) (N : Nat) (I : Nat → Int → Int) (L : Nat → Int → Int64) : am_go0 cl 131 59 ls [.inl x1, .inl x0, .inr (.inr (some 2))] (am_GS N, am_GR, I, L) = am_bd (cl 80 [.inr (.inr (some 2)), .inl x0, .inl x1] (am_GS N, am_GR, I, L)) (fun v h2 => am_go0 cl 131 62 ls (v.toList ++ []) h2) := am_rV am_m131 d_131_59 am_k8184 rfl am_m80 (gs_2 N) (by decide) (Nat.le_of_ble_eq_true rfl) rfl ls
theorem d_131_62 : am_code 131 62 = some (.ireturn, 1) := by decide +kernel
theorem s_131_62 (cl : am_C) (ls : am_Ls) (x : Int) (h : am_H) : am_go0 cl 131 62 ls [.inl x] h = some (some (.inl x), h) := am_rE am_m131 d_131_62 rfl
theorem d_131_63 : am_code 131 63 = some (.aload_n 0, 1) := by decide +kernel
theorem s_131_63 (cl : am_C) (a1 a2 : Option am_V) (x : Nat) (st : List am_V) (h : am_H) : am_go0 cl 131 63 [some (.inr (.inr (some x))), a1, a2] st h = am_go0 cl 131 64 [some (.inr (.inr (some x))), a1, a2] (.inr (.inr (some x)) :: st) h := am_r am_m131 d_131_63 rfl
theorem d_131_64 : am_code 131 64 = some (.getfield 10, 3) := by decide +kernel
theorem s_131_64 (cl : am_C) (ls : am_Ls) (st : List am_V) (N : Nat) (I : Nat → Int → Int) (L : Nat → Int → Int64) : am_go0 cl 131 64 ls (.inr (.inr (some 1)) :: st) (am_GS N, am_GR, I, L) = am_go0 cl 131 67 ls (.inr (.inr (some 2)) :: st) (am_GS N, am_GR, I, L) := am_rG2 am_m131 d_131_64 am_f8010 rfl (gs_1 N) (by decide) gr_1_0 rfl
theorem d_131_67 : am_code 131 67 = some (.iload_n 1, 1) := by decide +kernel
theorem s_131_67 (cl : am_C) (a0 a2 : Option am_V) (x : Int) (st : List am_V) (h : am_H) : am_go0 cl 131 67 [a0, some (.inl x), a2] st h = am_go0 cl 131 68 [a0, some (.inl x), a2] (.inl x :: st) h := am_r am_m131 d_131_67 rfl
theorem d_131_68 : am_code 131 68 = some (.iconst 1, 1) := by decide +kernel
theorem s_131_68 (cl : am_C) (ls : am_Ls) (st : List am_V) (h : am_H) : am_go0 cl 131 68 ls st h = am_go0 cl 131 69 ls (.inl 1 :: st) h := am_rK am_m131 d_131_68 (by decide) rfl _ _ _
theorem d_131_69 : am_code 131 69 = some (.invokevirtual 184, 3) := by decide +kernel
theorem s_131_69 (cl : am_C) (ls : am_Ls) (x0 : Int) (x1 : Int) (N : Nat) (I : Nat → Int → Int) (L : Nat → Int → Int64) : am_go0 cl 131 69 ls [.inl x1, .inl x0, .inr (.inr (some 2))] (am_GS N, am_GR, I, L) = am_bd (cl 80 [.inr (.inr (some 2)), .inl x0, .inl x1] (am_GS N, am_GR, I, L)) (fun v h2 => am_go0 cl 131 72 ls (v.toList ++ []) h2) := am_rV am_m131 d_131_69 am_k8184 rfl am_m80 (gs_2 N) (by decide) (Nat.le_of_ble_eq_true rfl) rfl ls
theorem d_131_72 : am_code 131 72 = some (.ireturn, 1) := by decide +kernel
theorem s_131_72 (cl : am_C) (ls : am_Ls) (x : Int) (h : am_H) : am_go0 cl 131 72 ls [.inl x] h = some (some (.inl x), h) := am_rE am_m131 d_131_72 rfl
theorem d_131_73 : am_code 131 73 = some (.aload_n 0, 1) := by decide +kernel
theorem s_131_73 (cl : am_C) (a1 a2 : Option am_V) (x : Nat) (st : List am_V) (h : am_H) : am_go0 cl 131 73 [some (.inr (.inr (some x))), a1, a2] st h = am_go0 cl 131 74 [some (.inr (.inr (some x))), a1, a2] (.inr (.inr (some x)) :: st) h := am_r am_m131 d_131_73 rfl
theorem d_131_74 : am_code 131 74 = some (.getfield 10, 3) := by decide +kernel
theorem s_131_74 (cl : am_C) (ls : am_Ls) (st : List am_V) (N : Nat) (I : Nat → Int → Int) (L : Nat → Int → Int64) : am_go0 cl 131 74 ls (.inr (.inr (some 1)) :: st) (am_GS N, am_GR, I, L) = am_go0 cl 131 77 ls (.inr (.inr (some 2)) :: st) (am_GS N, am_GR, I, L) := am_rG2 am_m131 d_131_74 am_f8010 rfl (gs_1 N) (by decide) gr_1_0 rfl
theorem d_131_77 : am_code 131 77 = some (.iload_n 1, 1) := by decide +kernel
theorem s_131_77 (cl : am_C) (a0 a2 : Option am_V) (x : Int) (st : List am_V) (h : am_H) : am_go0 cl 131 77 [a0, some (.inl x), a2] st h = am_go0 cl 131 78 [a0, some (.inl x), a2] (.inl x :: st) h := am_r am_m131 d_131_77 rfl
theorem d_131_78 : am_code 131 78 = some (.invokevirtual 125, 3) := by decide +kernel
theorem s_131_78 (cl : am_C) (ls : am_Ls) (x0 : Int) (N : Nat) (I : Nat → Int → Int) (L : Nat → Int → Int64) : am_go0 cl 131 78 ls [.inl x0, .inr (.inr (some 2))] (am_GS N, am_GR, I, L) = am_bd (cl 78 [.inr (.inr (some 2)), .inl x0] (am_GS N, am_GR, I, L)) (fun v h2 => am_go0 cl 131 81 ls (v.toList ++ []) h2) := am_rV am_m131 d_131_78 am_k8125 rfl am_m78 (gs_2 N) (by decide) (Nat.le_of_ble_eq_true rfl) rfl ls
theorem d_131_81 : am_code 131 81 = some (.ifCond .eq 7, 3) := by decide +kernel
theorem s_131_81 (cl : am_C) (ls : am_Ls) (x : Int) (st : List am_V) (h : am_H) : am_go0 cl 131 81 ls (.inl x :: st) h = if x = 0 then am_go0 cl 131 88 ls st h else am_go0 cl 131 84 ls st h := (am_rJ1 am_m131 d_131_81 (by decide) rfl x ls st h).trans (am_ifT (am_cmp_eq x 0) _ _)
theorem d_131_84 : am_code 131 84 = some (.iconst 1, 1) := by decide +kernel
theorem s_131_84 (cl : am_C) (ls : am_Ls) (st : List am_V) (h : am_H) : am_go0 cl 131 84 ls st h = am_go0 cl 131 85 ls (.inl 1 :: st) h := am_rK am_m131 d_131_84 (by decide) rfl _ _ _
theorem d_131_85 : am_code 131 85 = some (.goto 4, 3) := by decide +kernel
theorem s_131_85 (cl : am_C) (ls : am_Ls) (st : List am_V) (h : am_H) : am_go0 cl 131 85 ls st h = am_go0 cl 131 89 ls st h := am_rGo am_m131 d_131_85 (by decide) _ _ _
theorem d_131_88 : am_code 131 88 = some (.iconst 0, 1) := by decide +kernel
theorem s_131_88 (cl : am_C) (ls : am_Ls) (st : List am_V) (h : am_H) : am_go0 cl 131 88 ls st h = am_go0 cl 131 89 ls (.inl 0 :: st) h := am_rK am_m131 d_131_88 (by decide) rfl _ _ _
theorem d_131_89 : am_code 131 89 = some (.ireturn, 1) := by decide +kernel
theorem s_131_89 (cl : am_C) (ls : am_Ls) (x : Int) (h : am_H) : am_go0 cl 131 89 ls [.inl x] h = some (some (.inl x), h) := am_rE am_m131 d_131_89 rfl
theorem d_131_90 : am_code 131 90 = some (.bipush (-2), 2) := by decide +kernel
theorem s_131_90 (cl : am_C) (ls : am_Ls) (st : List am_V) (h : am_H) : am_go0 cl 131 90 ls st h = am_go0 cl 131 92 ls (.inl (-2) :: st) h := am_rB am_m131 d_131_90 (by decide) rfl _ _ _
theorem d_131_92 : am_code 131 92 = some (.ireturn, 1) := by decide +kernel
theorem s_131_92 (cl : am_C) (ls : am_Ls) (x : Int) (h : am_H) : am_go0 cl 131 92 ls [.inl x] h = some (some (.inl x), h) := am_rE am_m131 d_131_92 rfl
theorem e_131 (d : Nat) (t : Nat) (p0 : Int) (p1 : Int) (h : am_H) : am_call (d + 1) 131 [.inr (.inr (some t)), .inl p0, .inl p1] h = am_go0 (am_call d) 131 0 [some (.inr (.inr (some t))), some (.inl p0), some (.inl p1)] [] h := am_callE am_m131 (Nat.le_of_ble_eq_true rfl) rfl
theorem d_132_0 : am_code 132 0 = some (.iload_n 1, 1) := by decide +kernel
theorem s_132_0 (cl : am_C) (a0 : Option am_V) (x : Int) (st : List am_V) (h : am_H) : am_go0 cl 132 0 [a0, some (.inl x)] st h = am_go0 cl 132 1 [a0, some (.inl x)] (.inl x :: st) h := am_r am_m132 d_132_0 rfl
theorem d_132_1 : am_code 132 1 = some (.tableswitch 99 0 6 #[43, 51, 59, 67, 75, 83, 91], 43) := by decide +kernel
theorem s_132_1 (cl : am_C) (ls : am_Ls) (x : Int) (st : List am_V) (h : am_H) : am_go0 cl 132 1 ls (.inl x :: st) h = if x = 0 then am_go0 cl 132 44 ls st h else if x = 1 then am_go0 cl 132 52 ls st h else if x = 2 then am_go0 cl 132 60 ls st h else if x = 3 then am_go0 cl 132 68 ls st h else if x = 4 then am_go0 cl 132 76 ls st h else if x = 5 then am_go0 cl 132 84 ls st h else if x = 6 then am_go0 cl 132 92 ls st h else am_go0 cl 132 100 ls st h := by
  by_cases q0 : x = 0
  · subst q0; exact (am_rTs (43) am_m132 d_132_1 (by decide +kernel) (by decide) _ _ _).trans (if_pos rfl).symm
  rw [if_neg q0]
  by_cases q1 : x = 1
  · subst q1; exact (am_rTs (51) am_m132 d_132_1 (by decide +kernel) (by decide) _ _ _).trans (if_pos rfl).symm
  rw [if_neg q1]
  by_cases q2 : x = 2
  · subst q2; exact (am_rTs (59) am_m132 d_132_1 (by decide +kernel) (by decide) _ _ _).trans (if_pos rfl).symm
  rw [if_neg q2]
  by_cases q3 : x = 3
  · subst q3; exact (am_rTs (67) am_m132 d_132_1 (by decide +kernel) (by decide) _ _ _).trans (if_pos rfl).symm
  rw [if_neg q3]
  by_cases q4 : x = 4
  · subst q4; exact (am_rTs (75) am_m132 d_132_1 (by decide +kernel) (by decide) _ _ _).trans (if_pos rfl).symm
  rw [if_neg q4]
  by_cases q5 : x = 5
  · subst q5; exact (am_rTs (83) am_m132 d_132_1 (by decide +kernel) (by decide) _ _ _).trans (if_pos rfl).symm
  rw [if_neg q5]
  by_cases q6 : x = 6
  · subst q6; exact (am_rTs (91) am_m132 d_132_1 (by decide +kernel) (by decide) _ _ _).trans (if_pos rfl).symm
  rw [if_neg q6]
  exact am_rTs (99) am_m132 d_132_1 (am_sw_out (by omega)) (by decide) _ _ _
theorem d_132_44 : am_code 132 44 = some (.aload_n 0, 1) := by decide +kernel
theorem s_132_44 (cl : am_C) (a1 : Option am_V) (x : Nat) (st : List am_V) (h : am_H) : am_go0 cl 132 44 [some (.inr (.inr (some x))), a1] st h = am_go0 cl 132 45 [some (.inr (.inr (some x))), a1] (.inr (.inr (some x)) :: st) h := am_r am_m132 d_132_44 rfl
theorem d_132_45 : am_code 132 45 = some (.getfield 10, 3) := by decide +kernel
theorem s_132_45 (cl : am_C) (ls : am_Ls) (st : List am_V) (N : Nat) (I : Nat → Int → Int) (L : Nat → Int → Int64) : am_go0 cl 132 45 ls (.inr (.inr (some 1)) :: st) (am_GS N, am_GR, I, L) = am_go0 cl 132 48 ls (.inr (.inr (some 2)) :: st) (am_GS N, am_GR, I, L) := am_rG2 am_m132 d_132_45 am_f8010 rfl (gs_1 N) (by decide) gr_1_0 rfl
theorem d_132_48 : am_code 132 48 = some (.invokevirtual 187, 3) := by decide +kernel
theorem s_132_48 (cl : am_C) (ls : am_Ls) (N : Nat) (I : Nat → Int → Int) (L : Nat → Int → Int64) : am_go0 cl 132 48 ls [.inr (.inr (some 2))] (am_GS N, am_GR, I, L) = am_bd (cl 84 [.inr (.inr (some 2))] (am_GS N, am_GR, I, L)) (fun v h2 => am_go0 cl 132 51 ls (v.toList ++ []) h2) := am_rV am_m132 d_132_48 am_k8187 rfl am_m84 (gs_2 N) (by decide) (Nat.le_of_ble_eq_true rfl) rfl ls
theorem d_132_51 : am_code 132 51 = some (.ireturn, 1) := by decide +kernel
theorem s_132_51 (cl : am_C) (ls : am_Ls) (x : Int) (h : am_H) : am_go0 cl 132 51 ls [.inl x] h = some (some (.inl x), h) := am_rE am_m132 d_132_51 rfl
theorem d_132_52 : am_code 132 52 = some (.aload_n 0, 1) := by decide +kernel
theorem s_132_52 (cl : am_C) (a1 : Option am_V) (x : Nat) (st : List am_V) (h : am_H) : am_go0 cl 132 52 [some (.inr (.inr (some x))), a1] st h = am_go0 cl 132 53 [some (.inr (.inr (some x))), a1] (.inr (.inr (some x)) :: st) h := am_r am_m132 d_132_52 rfl
theorem d_132_53 : am_code 132 53 = some (.getfield 10, 3) := by decide +kernel
theorem s_132_53 (cl : am_C) (ls : am_Ls) (st : List am_V) (N : Nat) (I : Nat → Int → Int) (L : Nat → Int → Int64) : am_go0 cl 132 53 ls (.inr (.inr (some 1)) :: st) (am_GS N, am_GR, I, L) = am_go0 cl 132 56 ls (.inr (.inr (some 2)) :: st) (am_GS N, am_GR, I, L) := am_rG2 am_m132 d_132_53 am_f8010 rfl (gs_1 N) (by decide) gr_1_0 rfl
theorem d_132_56 : am_code 132 56 = some (.invokevirtual 190, 3) := by decide +kernel
theorem s_132_56 (cl : am_C) (ls : am_Ls) (N : Nat) (I : Nat → Int → Int) (L : Nat → Int → Int64) : am_go0 cl 132 56 ls [.inr (.inr (some 2))] (am_GS N, am_GR, I, L) = am_bd (cl 85 [.inr (.inr (some 2))] (am_GS N, am_GR, I, L)) (fun v h2 => am_go0 cl 132 59 ls (v.toList ++ []) h2) := am_rV am_m132 d_132_56 am_k8190 rfl am_m85 (gs_2 N) (by decide) (Nat.le_of_ble_eq_true rfl) rfl ls
theorem d_132_59 : am_code 132 59 = some (.ireturn, 1) := by decide +kernel
theorem s_132_59 (cl : am_C) (ls : am_Ls) (x : Int) (h : am_H) : am_go0 cl 132 59 ls [.inl x] h = some (some (.inl x), h) := am_rE am_m132 d_132_59 rfl
theorem d_132_60 : am_code 132 60 = some (.aload_n 0, 1) := by decide +kernel
theorem s_132_60 (cl : am_C) (a1 : Option am_V) (x : Nat) (st : List am_V) (h : am_H) : am_go0 cl 132 60 [some (.inr (.inr (some x))), a1] st h = am_go0 cl 132 61 [some (.inr (.inr (some x))), a1] (.inr (.inr (some x)) :: st) h := am_r am_m132 d_132_60 rfl
theorem d_132_61 : am_code 132 61 = some (.getfield 19, 3) := by decide +kernel
theorem s_132_61 (cl : am_C) (ls : am_Ls) (st : List am_V) (N : Nat) (I : Nat → Int → Int) (L : Nat → Int → Int64) : am_go0 cl 132 61 ls (.inr (.inr (some 1)) :: st) (am_GS N, am_GR, I, L) = am_go0 cl 132 64 ls (.inr (.inr (some 10)) :: st) (am_GS N, am_GR, I, L) := am_rG2 am_m132 d_132_61 am_f8019 rfl (gs_1 N) (by decide) gr_1_1 rfl
theorem d_132_64 : am_code 132 64 = some (.invokevirtual 193, 3) := by decide +kernel
theorem s_132_64 (cl : am_C) (ls : am_Ls) (N : Nat) (I : Nat → Int → Int) (L : Nat → Int → Int64) : am_go0 cl 132 64 ls [.inr (.inr (some 10))] (am_GS N, am_GR, I, L) = am_bd (cl 10 [.inr (.inr (some 10))] (am_GS N, am_GR, I, L)) (fun v h2 => am_go0 cl 132 67 ls (v.toList ++ []) h2) := am_rV am_m132 d_132_64 am_k8193 rfl am_m10 (gs_10 N) (by decide) (Nat.le_of_ble_eq_true rfl) rfl ls
theorem d_132_67 : am_code 132 67 = some (.ireturn, 1) := by decide +kernel
theorem s_132_67 (cl : am_C) (ls : am_Ls) (x : Int) (h : am_H) : am_go0 cl 132 67 ls [.inl x] h = some (some (.inl x), h) := am_rE am_m132 d_132_67 rfl
theorem d_132_68 : am_code 132 68 = some (.aload_n 0, 1) := by decide +kernel
theorem s_132_68 (cl : am_C) (a1 : Option am_V) (x : Nat) (st : List am_V) (h : am_H) : am_go0 cl 132 68 [some (.inr (.inr (some x))), a1] st h = am_go0 cl 132 69 [some (.inr (.inr (some x))), a1] (.inr (.inr (some x)) :: st) h := am_r am_m132 d_132_68 rfl
theorem d_132_69 : am_code 132 69 = some (.getfield 28, 3) := by decide +kernel
theorem s_132_69 (cl : am_C) (ls : am_Ls) (st : List am_V) (N : Nat) (I : Nat → Int → Int) (L : Nat → Int → Int64) : am_go0 cl 132 69 ls (.inr (.inr (some 1)) :: st) (am_GS N, am_GR, I, L) = am_go0 cl 132 72 ls (.inr (.inr (some 15)) :: st) (am_GS N, am_GR, I, L) := am_rG2 am_m132 d_132_69 am_f8028 rfl (gs_1 N) (by decide) gr_1_2 rfl
theorem d_132_72 : am_code 132 72 = some (.invokevirtual 196, 3) := by decide +kernel
theorem s_132_72 (cl : am_C) (ls : am_Ls) (N : Nat) (I : Nat → Int → Int) (L : Nat → Int → Int64) : am_go0 cl 132 72 ls [.inr (.inr (some 15))] (am_GS N, am_GR, I, L) = am_bd (cl 41 [.inr (.inr (some 15))] (am_GS N, am_GR, I, L)) (fun v h2 => am_go0 cl 132 75 ls (v.toList ++ []) h2) := am_rV am_m132 d_132_72 am_k8196 rfl am_m41 (gs_15 N) (by decide) (Nat.le_of_ble_eq_true rfl) rfl ls
theorem d_132_75 : am_code 132 75 = some (.ireturn, 1) := by decide +kernel
theorem s_132_75 (cl : am_C) (ls : am_Ls) (x : Int) (h : am_H) : am_go0 cl 132 75 ls [.inl x] h = some (some (.inl x), h) := am_rE am_m132 d_132_75 rfl
theorem d_132_76 : am_code 132 76 = some (.aload_n 0, 1) := by decide +kernel
theorem s_132_76 (cl : am_C) (a1 : Option am_V) (x : Nat) (st : List am_V) (h : am_H) : am_go0 cl 132 76 [some (.inr (.inr (some x))), a1] st h = am_go0 cl 132 77 [some (.inr (.inr (some x))), a1] (.inr (.inr (some x)) :: st) h := am_r am_m132 d_132_76 rfl
theorem d_132_77 : am_code 132 77 = some (.getfield 37, 3) := by decide +kernel
theorem s_132_77 (cl : am_C) (ls : am_Ls) (st : List am_V) (N : Nat) (I : Nat → Int → Int) (L : Nat → Int → Int64) : am_go0 cl 132 77 ls (.inr (.inr (some 1)) :: st) (am_GS N, am_GR, I, L) = am_go0 cl 132 80 ls (.inr (.inr (some 22)) :: st) (am_GS N, am_GR, I, L) := am_rG2 am_m132 d_132_77 am_f8037 rfl (gs_1 N) (by decide) gr_1_3 rfl
theorem d_132_80 : am_code 132 80 = some (.invokevirtual 197, 3) := by decide +kernel
theorem s_132_80 (cl : am_C) (ls : am_Ls) (N : Nat) (I : Nat → Int → Int) (L : Nat → Int → Int64) : am_go0 cl 132 80 ls [.inr (.inr (some 22))] (am_GS N, am_GR, I, L) = am_bd (cl 57 [.inr (.inr (some 22))] (am_GS N, am_GR, I, L)) (fun v h2 => am_go0 cl 132 83 ls (v.toList ++ []) h2) := am_rV am_m132 d_132_80 am_k8197 rfl am_m57 (gs_22 N) (by decide) (Nat.le_of_ble_eq_true rfl) rfl ls
theorem d_132_83 : am_code 132 83 = some (.ireturn, 1) := by decide +kernel
theorem s_132_83 (cl : am_C) (ls : am_Ls) (x : Int) (h : am_H) : am_go0 cl 132 83 ls [.inl x] h = some (some (.inl x), h) := am_rE am_m132 d_132_83 rfl
theorem d_132_84 : am_code 132 84 = some (.aload_n 0, 1) := by decide +kernel
theorem s_132_84 (cl : am_C) (a1 : Option am_V) (x : Nat) (st : List am_V) (h : am_H) : am_go0 cl 132 84 [some (.inr (.inr (some x))), a1] st h = am_go0 cl 132 85 [some (.inr (.inr (some x))), a1] (.inr (.inr (some x)) :: st) h := am_r am_m132 d_132_84 rfl
theorem d_132_85 : am_code 132 85 = some (.getfield 53, 3) := by decide +kernel
theorem s_132_85 (cl : am_C) (ls : am_Ls) (st : List am_V) (N : Nat) (I : Nat → Int → Int) (L : Nat → Int → Int64) : am_go0 cl 132 85 ls (.inr (.inr (some 1)) :: st) (am_GS N, am_GR, I, L) = am_go0 cl 132 88 ls (.inr (.inr (some 33)) :: st) (am_GS N, am_GR, I, L) := am_rG2 am_m132 d_132_85 am_f8053 rfl (gs_1 N) (by decide) gr_1_5 rfl
theorem d_132_88 : am_code 132 88 = some (.invokevirtual 198, 3) := by decide +kernel
theorem s_132_88 (cl : am_C) (ls : am_Ls) (N : Nat) (I : Nat → Int → Int) (L : Nat → Int → Int64) : am_go0 cl 132 88 ls [.inr (.inr (some 33))] (am_GS N, am_GR, I, L) = am_bd (cl 28 [.inr (.inr (some 33))] (am_GS N, am_GR, I, L)) (fun v h2 => am_go0 cl 132 91 ls (v.toList ++ []) h2) := am_rV am_m132 d_132_88 am_k8198 rfl am_m28 (gs_33 N) (by decide) (Nat.le_of_ble_eq_true rfl) rfl ls
theorem d_132_91 : am_code 132 91 = some (.ireturn, 1) := by decide +kernel
theorem s_132_91 (cl : am_C) (ls : am_Ls) (x : Int) (h : am_H) : am_go0 cl 132 91 ls [.inl x] h = some (some (.inl x), h) := am_rE am_m132 d_132_91 rfl
theorem d_132_92 : am_code 132 92 = some (.aload_n 0, 1) := by decide +kernel
theorem s_132_92 (cl : am_C) (a1 : Option am_V) (x : Nat) (st : List am_V) (h : am_H) : am_go0 cl 132 92 [some (.inr (.inr (some x))), a1] st h = am_go0 cl 132 93 [some (.inr (.inr (some x))), a1] (.inr (.inr (some x)) :: st) h := am_r am_m132 d_132_92 rfl
theorem d_132_93 : am_code 132 93 = some (.getfield 60, 3) := by decide +kernel
theorem s_132_93 (cl : am_C) (ls : am_Ls) (st : List am_V) (N : Nat) (I : Nat → Int → Int) (L : Nat → Int → Int64) : am_go0 cl 132 93 ls (.inr (.inr (some 1)) :: st) (am_GS N, am_GR, I, L) = am_go0 cl 132 96 ls (.inr (.inr (some 41)) :: st) (am_GS N, am_GR, I, L) := am_rG2 am_m132 d_132_93 am_f8060 rfl (gs_1 N) (by decide) gr_1_6 rfl
theorem d_132_96 : am_code 132 96 = some (.invokevirtual 199, 3) := by decide +kernel
theorem s_132_96 (cl : am_C) (ls : am_Ls) (N : Nat) (I : Nat → Int → Int) (L : Nat → Int → Int64) : am_go0 cl 132 96 ls [.inr (.inr (some 41))] (am_GS N, am_GR, I, L) = am_bd (cl 68 [.inr (.inr (some 41))] (am_GS N, am_GR, I, L)) (fun v h2 => am_go0 cl 132 99 ls (v.toList ++ []) h2) := am_rV am_m132 d_132_96 am_k8199 rfl am_m68 (gs_41 N) (by decide) (Nat.le_of_ble_eq_true rfl) rfl ls
theorem d_132_99 : am_code 132 99 = some (.ireturn, 1) := by decide +kernel
theorem s_132_99 (cl : am_C) (ls : am_Ls) (x : Int) (h : am_H) : am_go0 cl 132 99 ls [.inl x] h = some (some (.inl x), h) := am_rE am_m132 d_132_99 rfl
theorem d_132_100 : am_code 132 100 = some (.bipush (-2), 2) := by decide +kernel
theorem s_132_100 (cl : am_C) (ls : am_Ls) (st : List am_V) (h : am_H) : am_go0 cl 132 100 ls st h = am_go0 cl 132 102 ls (.inl (-2) :: st) h := am_rB am_m132 d_132_100 (by decide) rfl _ _ _
theorem d_132_102 : am_code 132 102 = some (.ireturn, 1) := by decide +kernel
theorem s_132_102 (cl : am_C) (ls : am_Ls) (x : Int) (h : am_H) : am_go0 cl 132 102 ls [.inl x] h = some (some (.inl x), h) := am_rE am_m132 d_132_102 rfl
theorem e_132 (d : Nat) (t : Nat) (p0 : Int) (h : am_H) : am_call (d + 1) 132 [.inr (.inr (some t)), .inl p0] h = am_go0 (am_call d) 132 0 [some (.inr (.inr (some t))), some (.inl p0)] [] h := am_callE am_m132 (Nat.le_of_ble_eq_true rfl) rfl
