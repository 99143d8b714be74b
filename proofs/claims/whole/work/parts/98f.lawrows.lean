/-! The law's own rows. -/
theorem am_rAs {cl : am_C} {j pc nx : Nat} {m : am_M} (hm : am_ml[j]? = some m) (hd : am_code j pc = some (.iaload, 1)) (ho : m.2.2.2.2 = 10) (hn : pc + 1 = nx) (ls : am_Ls) (r : List am_V) (i : Int) (N : Nat) (I : Nat → Int → Int) (L : Nat → Int → Int64) (h0 : 0 ≤ i) (h1 : i < (N : Int)) : am_go0 cl j pc ls (.inl i :: .inr (.inr (some 0)) :: r) (am_GS N, am_GR, I, L) = am_go0 cl j nx ls (.inl (I 0 i) :: r) (am_GS N, am_GR, I, L) := by
  subst hn
  have hb : am_inb (am_GS N) 0 9 i = true := (am_inb_iff (S := am_GS N) (k := 0) (tag := 9) (n := N) rfl i).mpr ⟨h0, h1⟩
  refine am_r hm hd ?_
  show am_ial m.2.2.2.2 (pc + 1) ls (.inl i :: .inr (.inr (some 0)) :: r) (am_GS N, am_GR, I, L) = _
  rw [ho]
  exact if_pos (Or.inr ⟨rfl, rfl, hb⟩)
theorem am_nxN {m : am_M} {a n pc c : Nat} {ls : am_Ls} {st : List am_V} {S : List (Nat × Nat)} {R : Nat → Int → Option Nat} {I : Nat → Int → Int} {L : Nat → Int → Int64} (hc : am_lk am_ck (am_key m.2.2.2.2 a) = some c) : am_next m (.new a) n pc ls st (S, R, I, L) = some (.inl (pc + n, ls, .inr (.inr (some S.length)) :: st, (S ++ [(c + 3, 0)], am_zR R S.length, am_zI I S.length, am_zL L S.length))) := by
  show am_new m.2.2.2.2 a (pc + n) ls st (S, R, I, L) = _
  unfold am_new
  rw [hc]
  rfl
theorem am_rVp {cl : am_C} {j pc n i j2 na nx a : Nat} {m : am_M} {as r : List am_V} {h : am_H} {st : List am_V} (hm : am_ml[j]? = some m) (hd : am_code j pc = some (.invokespecial i, n)) (hk : am_lk am_mk (am_key m.2.2.2.2 i) = some (2, j2, na)) (hs : am_split na [] st = some (as, .inr (.inr (some a)) :: r)) (hw : am_words r ≤ 8) (hn : pc + n = nx) (ls : am_Ls) : am_go0 cl j pc ls st h = am_bd (cl j2 (.inr (.inr (some a)) :: as) h) (fun v h' => am_go0 cl j nx ls (v.toList ++ r) h') := by
  subst hn
  refine am_rC hm hd ?_
  simp only [am_next, am_inv, hk, hs]
  simp [hw]
theorem d_183_0 : am_code 183 0 = some (.new 7, 3) := by decide +kernel
theorem s_183_0 (cl : am_C) (ls : am_Ls) (st : List am_V) (S : List (Nat × Nat)) (R : Nat → Int → Option Nat) (I : Nat → Int → Int) (L : Nat → Int → Int64) : am_go0 cl 183 0 ls st (S, R, I, L) = am_go0 cl 183 3 ls (.inr (.inr (some S.length)) :: st) (S ++ [(11, 0)], am_zR R S.length, am_zI I S.length, am_zL L S.length) := am_r am_m183 d_183_0 (am_nxN (by decide +kernel))
theorem d_183_3 : am_code 183 3 = some (.dup, 1) := by decide +kernel
theorem s_183_3 (cl : am_C) (ls : am_Ls) (x : Nat) (st : List am_V) (h : am_H) : am_go0 cl 183 3 ls (.inr (.inr (some x)) :: st) h = am_go0 cl 183 4 ls (.inr (.inr (some x)) :: .inr (.inr (some x)) :: st) h := am_r am_m183 d_183_3 rfl
theorem d_183_4 : am_code 183 4 = some (.invokespecial 9, 3) := by decide +kernel
theorem s_183_4 (cl : am_C) (ls : am_Ls) (x : Nat) (h : am_H) : am_go0 cl 183 4 ls [.inr (.inr (some x)), .inr (.inr (some x))] h = am_bd (cl 111 [.inr (.inr (some x))] h) (fun v h2 => am_go0 cl 183 7 ls (v.toList ++ [.inr (.inr (some x))]) h2) := am_rVp am_m183 d_183_4 am_k10009 rfl (Nat.le_of_ble_eq_true rfl) rfl ls
theorem d_183_7 : am_code 183 7 = some (.astore_n 1, 1) := by decide +kernel
theorem s_183_7 (cl : am_C) (a0 a1 a2 a3 : Option am_V) (x : Nat) (st : List am_V) (h : am_H) : am_go0 cl 183 7 [a0, a1, a2, a3] (.inr (.inr (some x)) :: st) h = am_go0 cl 183 8 [am_c1 a0, some (.inr (.inr (some x))), a2, a3] st h := am_r am_m183 d_183_7 rfl
theorem d_183_8 : am_code 183 8 = some (.new 10, 3) := by decide +kernel
theorem s_183_8 (cl : am_C) (ls : am_Ls) (st : List am_V) (S : List (Nat × Nat)) (R : Nat → Int → Option Nat) (I : Nat → Int → Int) (L : Nat → Int → Int64) : am_go0 cl 183 8 ls st (S, R, I, L) = am_go0 cl 183 11 ls (.inr (.inr (some S.length)) :: st) (S ++ [(12, 0)], am_zR R S.length, am_zI I S.length, am_zL L S.length) := am_r am_m183 d_183_8 (am_nxN (by decide +kernel))
theorem d_183_11 : am_code 183 11 = some (.dup, 1) := by decide +kernel
theorem s_183_11 (cl : am_C) (ls : am_Ls) (x : Nat) (st : List am_V) (h : am_H) : am_go0 cl 183 11 ls (.inr (.inr (some x)) :: st) h = am_go0 cl 183 12 ls (.inr (.inr (some x)) :: .inr (.inr (some x)) :: st) h := am_r am_m183 d_183_11 rfl
theorem d_183_12 : am_code 183 12 = some (.invokespecial 12, 3) := by decide +kernel
theorem s_183_12 (cl : am_C) (ls : am_Ls) (x : Nat) (h : am_H) : am_go0 cl 183 12 ls [.inr (.inr (some x)), .inr (.inr (some x))] h = am_bd (cl 133 [.inr (.inr (some x))] h) (fun v h2 => am_go0 cl 183 15 ls (v.toList ++ [.inr (.inr (some x))]) h2) := am_rVp am_m183 d_183_12 am_k10012 rfl (Nat.le_of_ble_eq_true rfl) rfl ls
theorem d_183_15 : am_code 183 15 = some (.astore_n 2, 1) := by decide +kernel
theorem s_183_15 (cl : am_C) (a0 a1 a2 a3 : Option am_V) (x : Nat) (st : List am_V) (h : am_H) : am_go0 cl 183 15 [a0, a1, a2, a3] (.inr (.inr (some x)) :: st) h = am_go0 cl 183 16 [a0, am_c1 a1, some (.inr (.inr (some x))), a3] st h := am_r am_m183 d_183_15 rfl
theorem d_183_16 : am_code 183 16 = some (.iconst 0, 1) := by decide +kernel
theorem s_183_16 (cl : am_C) (ls : am_Ls) (st : List am_V) (h : am_H) : am_go0 cl 183 16 ls st h = am_go0 cl 183 17 ls (.inl 0 :: st) h := am_rK am_m183 d_183_16 (by decide) rfl _ _ _
theorem d_183_17 : am_code 183 17 = some (.istore_n 3, 1) := by decide +kernel
theorem s_183_17 (cl : am_C) (a0 a1 a2 a3 : Option am_V) (x : Int) (st : List am_V) (h : am_H) : am_go0 cl 183 17 [a0, a1, a2, a3] (.inl x :: st) h = am_go0 cl 183 18 [a0, a1, am_c1 a2, some (.inl x)] st h := am_r am_m183 d_183_17 rfl
theorem d_183_18 : am_code 183 18 = some (.iload_n 3, 1) := by decide +kernel
theorem s_183_18 (cl : am_C) (a0 a1 a2 : Option am_V) (x : Int) (st : List am_V) (h : am_H) : am_go0 cl 183 18 [a0, a1, a2, some (.inl x)] st h = am_go0 cl 183 19 [a0, a1, a2, some (.inl x)] (.inl x :: st) h := am_r am_m183 d_183_18 rfl
theorem d_183_19 : am_code 183 19 = some (.aload_n 0, 1) := by decide +kernel
theorem s_183_19 (cl : am_C) (a1 a2 a3 : Option am_V) (x : Nat) (st : List am_V) (h : am_H) : am_go0 cl 183 19 [some (.inr (.inr (some x))), a1, a2, a3] st h = am_go0 cl 183 20 [some (.inr (.inr (some x))), a1, a2, a3] (.inr (.inr (some x)) :: st) h := am_r am_m183 d_183_19 rfl
theorem d_183_20 : am_code 183 20 = some (.arraylength, 1) := by decide +kernel
theorem s_183_20 (cl : am_C) (ls : am_Ls) (st : List am_V) (N : Nat) (I : Nat → Int → Int) (L : Nat → Int → Int64) (h9 : N < 2147483648) : am_go0 cl 183 20 ls (.inr (.inr (some 0)) :: st) (am_GS N, am_GR, I, L) = am_go0 cl 183 21 ls (.inl (N : Int) :: st) (am_GS N, am_GR, I, L) := am_r am_m183 d_183_20 (by simp [am_next, am_len, am_go, am_GS, h9])
theorem d_183_21 : am_code 183 21 = some (.iconst 5, 1) := by decide +kernel
theorem s_183_21 (cl : am_C) (ls : am_Ls) (st : List am_V) (h : am_H) : am_go0 cl 183 21 ls st h = am_go0 cl 183 22 ls (.inl 5 :: st) h := am_rK am_m183 d_183_21 (by decide) rfl _ _ _
theorem d_183_22 : am_code 183 22 = some (.isub, 1) := by decide +kernel
theorem s_183_22 (cl : am_C) (ls : am_Ls) (x y : Int) (st : List am_V) (h : am_H) : am_go0 cl 183 22 ls (.inl y :: .inl x :: st) h = am_go0 cl 183 23 ls (.inl (am_wr (x - y)) :: st) h := am_r am_m183 d_183_22 rfl
theorem d_183_23 : am_code 183 23 = some (.if_icmp .gt 745, 3) := by decide +kernel
theorem s_183_23 (cl : am_C) (ls : am_Ls) (x y : Int) (st : List am_V) (h : am_H) : am_go0 cl 183 23 ls (.inl y :: .inl x :: st) h = if y < x then am_go0 cl 183 768 ls st h else am_go0 cl 183 26 ls st h := (am_rJ0 am_m183 d_183_23 (by decide) rfl x y ls st h).trans (am_ifT (am_cmp_gt x y) _ _)
theorem d_183_26 : am_code 183 26 = some (.aload_n 0, 1) := by decide +kernel
theorem s_183_26 (cl : am_C) (a1 a2 a3 : Option am_V) (x : Nat) (st : List am_V) (h : am_H) : am_go0 cl 183 26 [some (.inr (.inr (some x))), a1, a2, a3] st h = am_go0 cl 183 27 [some (.inr (.inr (some x))), a1, a2, a3] (.inr (.inr (some x)) :: st) h := am_r am_m183 d_183_26 rfl
theorem d_183_27 : am_code 183 27 = some (.iload_n 3, 1) := by decide +kernel
theorem s_183_27 (cl : am_C) (a0 a1 a2 : Option am_V) (x : Int) (st : List am_V) (h : am_H) : am_go0 cl 183 27 [a0, a1, a2, some (.inl x)] st h = am_go0 cl 183 28 [a0, a1, a2, some (.inl x)] (.inl x :: st) h := am_r am_m183 d_183_27 rfl
theorem d_183_28 : am_code 183 28 = some (.iaload, 1) := by decide +kernel
theorem s_183_28 (cl : am_C) (ls : am_Ls) (i : Int) (st : List am_V) (N : Nat) (I : Nat → Int → Int) (L : Nat → Int → Int64) (h0 : 0 ≤ i) (h1 : i < (N : Int)) : am_go0 cl 183 28 ls (.inl i :: .inr (.inr (some 0)) :: st) (am_GS N, am_GR, I, L) = am_go0 cl 183 29 ls (.inl (I 0 i) :: st) (am_GS N, am_GR, I, L) := am_rAs am_m183 d_183_28 rfl rfl ls st i N I L h0 h1
theorem d_183_29 : am_code 183 29 = some (.bipush 31, 2) := by decide +kernel
theorem s_183_29 (cl : am_C) (ls : am_Ls) (st : List am_V) (h : am_H) : am_go0 cl 183 29 ls st h = am_go0 cl 183 31 ls (.inl 31 :: st) h := am_rB am_m183 d_183_29 (by decide) rfl _ _ _
theorem d_183_31 : am_code 183 31 = some (.iand, 1) := by decide +kernel
theorem s_183_31 (cl : am_C) (ls : am_Ls) (x y : Int) (st : List am_V) (h : am_H) : am_go0 cl 183 31 ls (.inl y :: .inl x :: st) h = am_go0 cl 183 32 ls (.inl ((Int32.ofInt x &&& Int32.ofInt y).toInt) :: st) h := am_r am_m183 d_183_31 rfl
theorem d_183_32 : am_code 183 32 = some (.tableswitch 730 0 18 #[92, 115, 158, 181, 214, 247, 290, 343, 386, 429, 462, 485, 518, 551, 585, 608, 641, 674, 707], 92) := by decide +kernel
theorem s_183_32 (cl : am_C) (ls : am_Ls) (x : Int) (st : List am_V) (h : am_H) : am_go0 cl 183 32 ls (.inl x :: st) h = if x = 0 then am_go0 cl 183 124 ls st h else if x = 1 then am_go0 cl 183 147 ls st h else if x = 2 then am_go0 cl 183 190 ls st h else if x = 3 then am_go0 cl 183 213 ls st h else if x = 4 then am_go0 cl 183 246 ls st h else if x = 5 then am_go0 cl 183 279 ls st h else if x = 6 then am_go0 cl 183 322 ls st h else if x = 7 then am_go0 cl 183 375 ls st h else if x = 8 then am_go0 cl 183 418 ls st h else if x = 9 then am_go0 cl 183 461 ls st h else if x = 10 then am_go0 cl 183 494 ls st h else if x = 11 then am_go0 cl 183 517 ls st h else if x = 12 then am_go0 cl 183 550 ls st h else if x = 13 then am_go0 cl 183 583 ls st h else if x = 14 then am_go0 cl 183 617 ls st h else if x = 15 then am_go0 cl 183 640 ls st h else if x = 16 then am_go0 cl 183 673 ls st h else if x = 17 then am_go0 cl 183 706 ls st h else if x = 18 then am_go0 cl 183 739 ls st h else am_go0 cl 183 762 ls st h := by
  by_cases q0 : x = 0
  · subst q0; exact (am_rTs (92) am_m183 d_183_32 (by decide +kernel) (by decide) _ _ _).trans (if_pos rfl).symm
  rw [if_neg q0]
  by_cases q1 : x = 1
  · subst q1; exact (am_rTs (115) am_m183 d_183_32 (by decide +kernel) (by decide) _ _ _).trans (if_pos rfl).symm
  rw [if_neg q1]
  by_cases q2 : x = 2
  · subst q2; exact (am_rTs (158) am_m183 d_183_32 (by decide +kernel) (by decide) _ _ _).trans (if_pos rfl).symm
  rw [if_neg q2]
  by_cases q3 : x = 3
  · subst q3; exact (am_rTs (181) am_m183 d_183_32 (by decide +kernel) (by decide) _ _ _).trans (if_pos rfl).symm
  rw [if_neg q3]
  by_cases q4 : x = 4
  · subst q4; exact (am_rTs (214) am_m183 d_183_32 (by decide +kernel) (by decide) _ _ _).trans (if_pos rfl).symm
  rw [if_neg q4]
  by_cases q5 : x = 5
  · subst q5; exact (am_rTs (247) am_m183 d_183_32 (by decide +kernel) (by decide) _ _ _).trans (if_pos rfl).symm
  rw [if_neg q5]
  by_cases q6 : x = 6
  · subst q6; exact (am_rTs (290) am_m183 d_183_32 (by decide +kernel) (by decide) _ _ _).trans (if_pos rfl).symm
  rw [if_neg q6]
  by_cases q7 : x = 7
  · subst q7; exact (am_rTs (343) am_m183 d_183_32 (by decide +kernel) (by decide) _ _ _).trans (if_pos rfl).symm
  rw [if_neg q7]
  by_cases q8 : x = 8
  · subst q8; exact (am_rTs (386) am_m183 d_183_32 (by decide +kernel) (by decide) _ _ _).trans (if_pos rfl).symm
  rw [if_neg q8]
  by_cases q9 : x = 9
  · subst q9; exact (am_rTs (429) am_m183 d_183_32 (by decide +kernel) (by decide) _ _ _).trans (if_pos rfl).symm
  rw [if_neg q9]
  by_cases q10 : x = 10
  · subst q10; exact (am_rTs (462) am_m183 d_183_32 (by decide +kernel) (by decide) _ _ _).trans (if_pos rfl).symm
  rw [if_neg q10]
  by_cases q11 : x = 11
  · subst q11; exact (am_rTs (485) am_m183 d_183_32 (by decide +kernel) (by decide) _ _ _).trans (if_pos rfl).symm
  rw [if_neg q11]
  by_cases q12 : x = 12
  · subst q12; exact (am_rTs (518) am_m183 d_183_32 (by decide +kernel) (by decide) _ _ _).trans (if_pos rfl).symm
  rw [if_neg q12]
  by_cases q13 : x = 13
  · subst q13; exact (am_rTs (551) am_m183 d_183_32 (by decide +kernel) (by decide) _ _ _).trans (if_pos rfl).symm
  rw [if_neg q13]
  by_cases q14 : x = 14
  · subst q14; exact (am_rTs (585) am_m183 d_183_32 (by decide +kernel) (by decide) _ _ _).trans (if_pos rfl).symm
  rw [if_neg q14]
  by_cases q15 : x = 15
  · subst q15; exact (am_rTs (608) am_m183 d_183_32 (by decide +kernel) (by decide) _ _ _).trans (if_pos rfl).symm
  rw [if_neg q15]
  by_cases q16 : x = 16
  · subst q16; exact (am_rTs (641) am_m183 d_183_32 (by decide +kernel) (by decide) _ _ _).trans (if_pos rfl).symm
  rw [if_neg q16]
  by_cases q17 : x = 17
  · subst q17; exact (am_rTs (674) am_m183 d_183_32 (by decide +kernel) (by decide) _ _ _).trans (if_pos rfl).symm
  rw [if_neg q17]
  by_cases q18 : x = 18
  · subst q18; exact (am_rTs (707) am_m183 d_183_32 (by decide +kernel) (by decide) _ _ _).trans (if_pos rfl).symm
  rw [if_neg q18]
  exact am_rTs (730) am_m183 d_183_32 (am_sw_out (by omega)) (by decide) _ _ _
theorem d_183_124 : am_code 183 124 = some (.aload_n 1, 1) := by decide +kernel
theorem s_183_124 (cl : am_C) (a0 a2 a3 : Option am_V) (x : Nat) (st : List am_V) (h : am_H) : am_go0 cl 183 124 [a0, some (.inr (.inr (some x))), a2, a3] st h = am_go0 cl 183 125 [a0, some (.inr (.inr (some x))), a2, a3] (.inr (.inr (some x)) :: st) h := am_r am_m183 d_183_124 rfl
theorem d_183_125 : am_code 183 125 = some (.aload_n 0, 1) := by decide +kernel
theorem s_183_125 (cl : am_C) (a1 a2 a3 : Option am_V) (x : Nat) (st : List am_V) (h : am_H) : am_go0 cl 183 125 [some (.inr (.inr (some x))), a1, a2, a3] st h = am_go0 cl 183 126 [some (.inr (.inr (some x))), a1, a2, a3] (.inr (.inr (some x)) :: st) h := am_r am_m183 d_183_125 rfl
theorem d_183_126 : am_code 183 126 = some (.iload_n 3, 1) := by decide +kernel
theorem s_183_126 (cl : am_C) (a0 a1 a2 : Option am_V) (x : Int) (st : List am_V) (h : am_H) : am_go0 cl 183 126 [a0, a1, a2, some (.inl x)] st h = am_go0 cl 183 127 [a0, a1, a2, some (.inl x)] (.inl x :: st) h := am_r am_m183 d_183_126 rfl
theorem d_183_127 : am_code 183 127 = some (.iconst 1, 1) := by decide +kernel
theorem s_183_127 (cl : am_C) (ls : am_Ls) (st : List am_V) (h : am_H) : am_go0 cl 183 127 ls st h = am_go0 cl 183 128 ls (.inl 1 :: st) h := am_rK am_m183 d_183_127 (by decide) rfl _ _ _
theorem d_183_128 : am_code 183 128 = some (.iadd, 1) := by decide +kernel
theorem s_183_128 (cl : am_C) (ls : am_Ls) (x y : Int) (st : List am_V) (h : am_H) : am_go0 cl 183 128 ls (.inl y :: .inl x :: st) h = am_go0 cl 183 129 ls (.inl (am_wr (x + y)) :: st) h := am_r am_m183 d_183_128 rfl
theorem d_183_129 : am_code 183 129 = some (.iaload, 1) := by decide +kernel
theorem s_183_129 (cl : am_C) (ls : am_Ls) (i : Int) (st : List am_V) (N : Nat) (I : Nat → Int → Int) (L : Nat → Int → Int64) (h0 : 0 ≤ i) (h1 : i < (N : Int)) : am_go0 cl 183 129 ls (.inl i :: .inr (.inr (some 0)) :: st) (am_GS N, am_GR, I, L) = am_go0 cl 183 130 ls (.inl (I 0 i) :: st) (am_GS N, am_GR, I, L) := am_rAs am_m183 d_183_129 rfl rfl ls st i N I L h0 h1
theorem d_183_130 : am_code 183 130 = some (.invokevirtual 13, 3) := by decide +kernel
theorem s_183_130 (cl : am_C) (ls : am_Ls) (x0 : Int) (N : Nat) (I : Nat → Int → Int) (L : Nat → Int → Int64) : am_go0 cl 183 130 ls [.inl x0, .inr (.inr (some 1))] (am_GS N, am_GR, I, L) = am_bd (cl 112 [.inr (.inr (some 1)), .inl x0] (am_GS N, am_GR, I, L)) (fun v h2 => am_go0 cl 183 133 ls (v.toList ++ []) h2) := am_rV am_m183 d_183_130 am_k10013 rfl am_m112 (gs_1 N) (by decide) (Nat.le_of_ble_eq_true rfl) rfl ls
theorem d_183_133 : am_code 183 133 = some (.aload_n 2, 1) := by decide +kernel
theorem s_183_133 (cl : am_C) (a0 a1 a3 : Option am_V) (x : Nat) (st : List am_V) (h : am_H) : am_go0 cl 183 133 [a0, a1, some (.inr (.inr (some x))), a3] st h = am_go0 cl 183 134 [a0, a1, some (.inr (.inr (some x))), a3] (.inr (.inr (some x)) :: st) h := am_r am_m183 d_183_133 rfl
theorem d_183_134 : am_code 183 134 = some (.aload_n 0, 1) := by decide +kernel
theorem s_183_134 (cl : am_C) (a1 a2 a3 : Option am_V) (x : Nat) (st : List am_V) (h : am_H) : am_go0 cl 183 134 [some (.inr (.inr (some x))), a1, a2, a3] st h = am_go0 cl 183 135 [some (.inr (.inr (some x))), a1, a2, a3] (.inr (.inr (some x)) :: st) h := am_r am_m183 d_183_134 rfl
theorem d_183_135 : am_code 183 135 = some (.iload_n 3, 1) := by decide +kernel
theorem s_183_135 (cl : am_C) (a0 a1 a2 : Option am_V) (x : Int) (st : List am_V) (h : am_H) : am_go0 cl 183 135 [a0, a1, a2, some (.inl x)] st h = am_go0 cl 183 136 [a0, a1, a2, some (.inl x)] (.inl x :: st) h := am_r am_m183 d_183_135 rfl
theorem d_183_136 : am_code 183 136 = some (.iconst 1, 1) := by decide +kernel
theorem s_183_136 (cl : am_C) (ls : am_Ls) (st : List am_V) (h : am_H) : am_go0 cl 183 136 ls st h = am_go0 cl 183 137 ls (.inl 1 :: st) h := am_rK am_m183 d_183_136 (by decide) rfl _ _ _
theorem d_183_137 : am_code 183 137 = some (.iadd, 1) := by decide +kernel
theorem s_183_137 (cl : am_C) (ls : am_Ls) (x y : Int) (st : List am_V) (h : am_H) : am_go0 cl 183 137 ls (.inl y :: .inl x :: st) h = am_go0 cl 183 138 ls (.inl (am_wr (x + y)) :: st) h := am_r am_m183 d_183_137 rfl
theorem d_183_138 : am_code 183 138 = some (.iaload, 1) := by decide +kernel
theorem s_183_138 (cl : am_C) (ls : am_Ls) (i : Int) (st : List am_V) (N : Nat) (I : Nat → Int → Int) (L : Nat → Int → Int64) (h0 : 0 ≤ i) (h1 : i < (N : Int)) : am_go0 cl 183 138 ls (.inl i :: .inr (.inr (some 0)) :: st) (am_GS N, am_GR, I, L) = am_go0 cl 183 139 ls (.inl (I 0 i) :: st) (am_GS N, am_GR, I, L) := am_rAs am_m183 d_183_138 rfl rfl ls st i N I L h0 h1
theorem d_183_139 : am_code 183 139 = some (.invokevirtual 17, 3) := by decide +kernel
theorem s_183_139 (cl : am_C) (ls : am_Ls) (x0 : Int) (z0 : Int) (N : Nat) (I : Nat → Int → Int) (L : Nat → Int → Int64) : am_go0 cl 183 139 ls [.inl x0, .inr (.inr (some 53)), .inl z0] (am_GS N, am_GR, I, L) = am_bd (cl 134 [.inr (.inr (some 53)), .inl x0] (am_GS N, am_GR, I, L)) (fun v h2 => am_go0 cl 183 142 ls (v.toList ++ [.inl z0]) h2) := am_rV am_m183 d_183_139 am_k10017 rfl am_m134 (gs_53 N) (by decide) (Nat.le_of_ble_eq_true rfl) rfl ls
theorem d_183_142 : am_code 183 142 = some (.if_icmp .eq 620, 3) := by decide +kernel
theorem s_183_142 (cl : am_C) (ls : am_Ls) (x y : Int) (st : List am_V) (h : am_H) : am_go0 cl 183 142 ls (.inl y :: .inl x :: st) h = if x = y then am_go0 cl 183 762 ls st h else am_go0 cl 183 145 ls st h := (am_rJ0 am_m183 d_183_142 (by decide) rfl x y ls st h).trans (am_ifT (am_cmp_eq x y) _ _)
theorem d_183_145 : am_code 183 145 = some (.iconst 0, 1) := by decide +kernel
theorem s_183_145 (cl : am_C) (ls : am_Ls) (st : List am_V) (h : am_H) : am_go0 cl 183 145 ls st h = am_go0 cl 183 146 ls (.inl 0 :: st) h := am_rK am_m183 d_183_145 (by decide) rfl _ _ _
theorem d_183_146 : am_code 183 146 = some (.ireturn, 1) := by decide +kernel
theorem s_183_146 (cl : am_C) (ls : am_Ls) (x : Int) (h : am_H) : am_go0 cl 183 146 ls [.inl x] h = if x = 0 ∨ x = 1 then some (some (.inl x), h) else none := am_rRz am_m183 d_183_146 x ls h
theorem d_183_147 : am_code 183 147 = some (.aload_n 1, 1) := by decide +kernel
theorem s_183_147 (cl : am_C) (a0 a2 a3 : Option am_V) (x : Nat) (st : List am_V) (h : am_H) : am_go0 cl 183 147 [a0, some (.inr (.inr (some x))), a2, a3] st h = am_go0 cl 183 148 [a0, some (.inr (.inr (some x))), a2, a3] (.inr (.inr (some x)) :: st) h := am_r am_m183 d_183_147 rfl
theorem d_183_148 : am_code 183 148 = some (.aload_n 0, 1) := by decide +kernel
theorem s_183_148 (cl : am_C) (a1 a2 a3 : Option am_V) (x : Nat) (st : List am_V) (h : am_H) : am_go0 cl 183 148 [some (.inr (.inr (some x))), a1, a2, a3] st h = am_go0 cl 183 149 [some (.inr (.inr (some x))), a1, a2, a3] (.inr (.inr (some x)) :: st) h := am_r am_m183 d_183_148 rfl
theorem d_183_149 : am_code 183 149 = some (.iload_n 3, 1) := by decide +kernel
theorem s_183_149 (cl : am_C) (a0 a1 a2 : Option am_V) (x : Int) (st : List am_V) (h : am_H) : am_go0 cl 183 149 [a0, a1, a2, some (.inl x)] st h = am_go0 cl 183 150 [a0, a1, a2, some (.inl x)] (.inl x :: st) h := am_r am_m183 d_183_149 rfl
theorem d_183_150 : am_code 183 150 = some (.iconst 1, 1) := by decide +kernel
theorem s_183_150 (cl : am_C) (ls : am_Ls) (st : List am_V) (h : am_H) : am_go0 cl 183 150 ls st h = am_go0 cl 183 151 ls (.inl 1 :: st) h := am_rK am_m183 d_183_150 (by decide) rfl _ _ _
theorem d_183_151 : am_code 183 151 = some (.iadd, 1) := by decide +kernel
theorem s_183_151 (cl : am_C) (ls : am_Ls) (x y : Int) (st : List am_V) (h : am_H) : am_go0 cl 183 151 ls (.inl y :: .inl x :: st) h = am_go0 cl 183 152 ls (.inl (am_wr (x + y)) :: st) h := am_r am_m183 d_183_151 rfl
theorem d_183_152 : am_code 183 152 = some (.iaload, 1) := by decide +kernel
theorem s_183_152 (cl : am_C) (ls : am_Ls) (i : Int) (st : List am_V) (N : Nat) (I : Nat → Int → Int) (L : Nat → Int → Int64) (h0 : 0 ≤ i) (h1 : i < (N : Int)) : am_go0 cl 183 152 ls (.inl i :: .inr (.inr (some 0)) :: st) (am_GS N, am_GR, I, L) = am_go0 cl 183 153 ls (.inl (I 0 i) :: st) (am_GS N, am_GR, I, L) := am_rAs am_m183 d_183_152 rfl rfl ls st i N I L h0 h1
theorem d_183_153 : am_code 183 153 = some (.aload_n 0, 1) := by decide +kernel
theorem s_183_153 (cl : am_C) (a1 a2 a3 : Option am_V) (x : Nat) (st : List am_V) (h : am_H) : am_go0 cl 183 153 [some (.inr (.inr (some x))), a1, a2, a3] st h = am_go0 cl 183 154 [some (.inr (.inr (some x))), a1, a2, a3] (.inr (.inr (some x)) :: st) h := am_r am_m183 d_183_153 rfl
theorem d_183_154 : am_code 183 154 = some (.iload_n 3, 1) := by decide +kernel
theorem s_183_154 (cl : am_C) (a0 a1 a2 : Option am_V) (x : Int) (st : List am_V) (h : am_H) : am_go0 cl 183 154 [a0, a1, a2, some (.inl x)] st h = am_go0 cl 183 155 [a0, a1, a2, some (.inl x)] (.inl x :: st) h := am_r am_m183 d_183_154 rfl
theorem d_183_155 : am_code 183 155 = some (.iconst 2, 1) := by decide +kernel
theorem s_183_155 (cl : am_C) (ls : am_Ls) (st : List am_V) (h : am_H) : am_go0 cl 183 155 ls st h = am_go0 cl 183 156 ls (.inl 2 :: st) h := am_rK am_m183 d_183_155 (by decide) rfl _ _ _
theorem d_183_156 : am_code 183 156 = some (.iadd, 1) := by decide +kernel
theorem s_183_156 (cl : am_C) (ls : am_Ls) (x y : Int) (st : List am_V) (h : am_H) : am_go0 cl 183 156 ls (.inl y :: .inl x :: st) h = am_go0 cl 183 157 ls (.inl (am_wr (x + y)) :: st) h := am_r am_m183 d_183_156 rfl
theorem d_183_157 : am_code 183 157 = some (.iaload, 1) := by decide +kernel
theorem s_183_157 (cl : am_C) (ls : am_Ls) (i : Int) (st : List am_V) (N : Nat) (I : Nat → Int → Int) (L : Nat → Int → Int64) (h0 : 0 ≤ i) (h1 : i < (N : Int)) : am_go0 cl 183 157 ls (.inl i :: .inr (.inr (some 0)) :: st) (am_GS N, am_GR, I, L) = am_go0 cl 183 158 ls (.inl (I 0 i) :: st) (am_GS N, am_GR, I, L) := am_rAs am_m183 d_183_157 rfl rfl ls st i N I L h0 h1
theorem d_183_158 : am_code 183 158 = some (.aload_n 0, 1) := by decide +kernel
theorem s_183_158 (cl : am_C) (a1 a2 a3 : Option am_V) (x : Nat) (st : List am_V) (h : am_H) : am_go0 cl 183 158 [some (.inr (.inr (some x))), a1, a2, a3] st h = am_go0 cl 183 159 [some (.inr (.inr (some x))), a1, a2, a3] (.inr (.inr (some x)) :: st) h := am_r am_m183 d_183_158 rfl
theorem d_183_159 : am_code 183 159 = some (.iload_n 3, 1) := by decide +kernel
theorem s_183_159 (cl : am_C) (a0 a1 a2 : Option am_V) (x : Int) (st : List am_V) (h : am_H) : am_go0 cl 183 159 [a0, a1, a2, some (.inl x)] st h = am_go0 cl 183 160 [a0, a1, a2, some (.inl x)] (.inl x :: st) h := am_r am_m183 d_183_159 rfl
theorem d_183_160 : am_code 183 160 = some (.iconst 3, 1) := by decide +kernel
theorem s_183_160 (cl : am_C) (ls : am_Ls) (st : List am_V) (h : am_H) : am_go0 cl 183 160 ls st h = am_go0 cl 183 161 ls (.inl 3 :: st) h := am_rK am_m183 d_183_160 (by decide) rfl _ _ _
theorem d_183_161 : am_code 183 161 = some (.iadd, 1) := by decide +kernel
theorem s_183_161 (cl : am_C) (ls : am_Ls) (x y : Int) (st : List am_V) (h : am_H) : am_go0 cl 183 161 ls (.inl y :: .inl x :: st) h = am_go0 cl 183 162 ls (.inl (am_wr (x + y)) :: st) h := am_r am_m183 d_183_161 rfl
theorem d_183_162 : am_code 183 162 = some (.iaload, 1) := by decide +kernel
theorem s_183_162 (cl : am_C) (ls : am_Ls) (i : Int) (st : List am_V) (N : Nat) (I : Nat → Int → Int) (L : Nat → Int → Int64) (h0 : 0 ≤ i) (h1 : i < (N : Int)) : am_go0 cl 183 162 ls (.inl i :: .inr (.inr (some 0)) :: st) (am_GS N, am_GR, I, L) = am_go0 cl 183 163 ls (.inl (I 0 i) :: st) (am_GS N, am_GR, I, L) := am_rAs am_m183 d_183_162 rfl rfl ls st i N I L h0 h1
theorem d_183_163 : am_code 183 163 = some (.invokevirtual 18, 3) := by decide +kernel
theorem s_183_163 (cl : am_C) (ls : am_Ls) (x0 : Int) (x1 : Int) (x2 : Int) (N : Nat) (I : Nat → Int → Int) (L : Nat → Int → Int64) : am_go0 cl 183 163 ls [.inl x2, .inl x1, .inl x0, .inr (.inr (some 1))] (am_GS N, am_GR, I, L) = am_bd (cl 113 [.inr (.inr (some 1)), .inl x0, .inl x1, .inl x2] (am_GS N, am_GR, I, L)) (fun v h2 => am_go0 cl 183 166 ls (v.toList ++ []) h2) := am_rV am_m183 d_183_163 am_k10018 rfl am_m113 (gs_1 N) (by decide) (Nat.le_of_ble_eq_true rfl) rfl ls
theorem d_183_166 : am_code 183 166 = some (.aload_n 2, 1) := by decide +kernel
theorem s_183_166 (cl : am_C) (a0 a1 a3 : Option am_V) (x : Nat) (st : List am_V) (h : am_H) : am_go0 cl 183 166 [a0, a1, some (.inr (.inr (some x))), a3] st h = am_go0 cl 183 167 [a0, a1, some (.inr (.inr (some x))), a3] (.inr (.inr (some x)) :: st) h := am_r am_m183 d_183_166 rfl
theorem d_183_167 : am_code 183 167 = some (.aload_n 0, 1) := by decide +kernel
theorem s_183_167 (cl : am_C) (a1 a2 a3 : Option am_V) (x : Nat) (st : List am_V) (h : am_H) : am_go0 cl 183 167 [some (.inr (.inr (some x))), a1, a2, a3] st h = am_go0 cl 183 168 [some (.inr (.inr (some x))), a1, a2, a3] (.inr (.inr (some x)) :: st) h := am_r am_m183 d_183_167 rfl
theorem d_183_168 : am_code 183 168 = some (.iload_n 3, 1) := by decide +kernel
theorem s_183_168 (cl : am_C) (a0 a1 a2 : Option am_V) (x : Int) (st : List am_V) (h : am_H) : am_go0 cl 183 168 [a0, a1, a2, some (.inl x)] st h = am_go0 cl 183 169 [a0, a1, a2, some (.inl x)] (.inl x :: st) h := am_r am_m183 d_183_168 rfl
theorem d_183_169 : am_code 183 169 = some (.iconst 1, 1) := by decide +kernel
theorem s_183_169 (cl : am_C) (ls : am_Ls) (st : List am_V) (h : am_H) : am_go0 cl 183 169 ls st h = am_go0 cl 183 170 ls (.inl 1 :: st) h := am_rK am_m183 d_183_169 (by decide) rfl _ _ _
theorem d_183_170 : am_code 183 170 = some (.iadd, 1) := by decide +kernel
theorem s_183_170 (cl : am_C) (ls : am_Ls) (x y : Int) (st : List am_V) (h : am_H) : am_go0 cl 183 170 ls (.inl y :: .inl x :: st) h = am_go0 cl 183 171 ls (.inl (am_wr (x + y)) :: st) h := am_r am_m183 d_183_170 rfl
theorem d_183_171 : am_code 183 171 = some (.iaload, 1) := by decide +kernel
theorem s_183_171 (cl : am_C) (ls : am_Ls) (i : Int) (st : List am_V) (N : Nat) (I : Nat → Int → Int) (L : Nat → Int → Int64) (h0 : 0 ≤ i) (h1 : i < (N : Int)) : am_go0 cl 183 171 ls (.inl i :: .inr (.inr (some 0)) :: st) (am_GS N, am_GR, I, L) = am_go0 cl 183 172 ls (.inl (I 0 i) :: st) (am_GS N, am_GR, I, L) := am_rAs am_m183 d_183_171 rfl rfl ls st i N I L h0 h1
theorem d_183_172 : am_code 183 172 = some (.aload_n 0, 1) := by decide +kernel
theorem s_183_172 (cl : am_C) (a1 a2 a3 : Option am_V) (x : Nat) (st : List am_V) (h : am_H) : am_go0 cl 183 172 [some (.inr (.inr (some x))), a1, a2, a3] st h = am_go0 cl 183 173 [some (.inr (.inr (some x))), a1, a2, a3] (.inr (.inr (some x)) :: st) h := am_r am_m183 d_183_172 rfl
theorem d_183_173 : am_code 183 173 = some (.iload_n 3, 1) := by decide +kernel
theorem s_183_173 (cl : am_C) (a0 a1 a2 : Option am_V) (x : Int) (st : List am_V) (h : am_H) : am_go0 cl 183 173 [a0, a1, a2, some (.inl x)] st h = am_go0 cl 183 174 [a0, a1, a2, some (.inl x)] (.inl x :: st) h := am_r am_m183 d_183_173 rfl
theorem d_183_174 : am_code 183 174 = some (.iconst 2, 1) := by decide +kernel
theorem s_183_174 (cl : am_C) (ls : am_Ls) (st : List am_V) (h : am_H) : am_go0 cl 183 174 ls st h = am_go0 cl 183 175 ls (.inl 2 :: st) h := am_rK am_m183 d_183_174 (by decide) rfl _ _ _
theorem d_183_175 : am_code 183 175 = some (.iadd, 1) := by decide +kernel
theorem s_183_175 (cl : am_C) (ls : am_Ls) (x y : Int) (st : List am_V) (h : am_H) : am_go0 cl 183 175 ls (.inl y :: .inl x :: st) h = am_go0 cl 183 176 ls (.inl (am_wr (x + y)) :: st) h := am_r am_m183 d_183_175 rfl
theorem d_183_176 : am_code 183 176 = some (.iaload, 1) := by decide +kernel
theorem s_183_176 (cl : am_C) (ls : am_Ls) (i : Int) (st : List am_V) (N : Nat) (I : Nat → Int → Int) (L : Nat → Int → Int64) (h0 : 0 ≤ i) (h1 : i < (N : Int)) : am_go0 cl 183 176 ls (.inl i :: .inr (.inr (some 0)) :: st) (am_GS N, am_GR, I, L) = am_go0 cl 183 177 ls (.inl (I 0 i) :: st) (am_GS N, am_GR, I, L) := am_rAs am_m183 d_183_176 rfl rfl ls st i N I L h0 h1
theorem d_183_177 : am_code 183 177 = some (.aload_n 0, 1) := by decide +kernel
theorem s_183_177 (cl : am_C) (a1 a2 a3 : Option am_V) (x : Nat) (st : List am_V) (h : am_H) : am_go0 cl 183 177 [some (.inr (.inr (some x))), a1, a2, a3] st h = am_go0 cl 183 178 [some (.inr (.inr (some x))), a1, a2, a3] (.inr (.inr (some x)) :: st) h := am_r am_m183 d_183_177 rfl
theorem d_183_178 : am_code 183 178 = some (.iload_n 3, 1) := by decide +kernel
theorem s_183_178 (cl : am_C) (a0 a1 a2 : Option am_V) (x : Int) (st : List am_V) (h : am_H) : am_go0 cl 183 178 [a0, a1, a2, some (.inl x)] st h = am_go0 cl 183 179 [a0, a1, a2, some (.inl x)] (.inl x :: st) h := am_r am_m183 d_183_178 rfl
theorem d_183_179 : am_code 183 179 = some (.iconst 3, 1) := by decide +kernel
theorem s_183_179 (cl : am_C) (ls : am_Ls) (st : List am_V) (h : am_H) : am_go0 cl 183 179 ls st h = am_go0 cl 183 180 ls (.inl 3 :: st) h := am_rK am_m183 d_183_179 (by decide) rfl _ _ _
theorem d_183_180 : am_code 183 180 = some (.iadd, 1) := by decide +kernel
theorem s_183_180 (cl : am_C) (ls : am_Ls) (x y : Int) (st : List am_V) (h : am_H) : am_go0 cl 183 180 ls (.inl y :: .inl x :: st) h = am_go0 cl 183 181 ls (.inl (am_wr (x + y)) :: st) h := am_r am_m183 d_183_180 rfl
theorem d_183_181 : am_code 183 181 = some (.iaload, 1) := by decide +kernel
theorem s_183_181 (cl : am_C) (ls : am_Ls) (i : Int) (st : List am_V) (N : Nat) (I : Nat → Int → Int) (L : Nat → Int → Int64) (h0 : 0 ≤ i) (h1 : i < (N : Int)) : am_go0 cl 183 181 ls (.inl i :: .inr (.inr (some 0)) :: st) (am_GS N, am_GR, I, L) = am_go0 cl 183 182 ls (.inl (I 0 i) :: st) (am_GS N, am_GR, I, L) := am_rAs am_m183 d_183_181 rfl rfl ls st i N I L h0 h1
theorem d_183_182 : am_code 183 182 = some (.invokevirtual 22, 3) := by decide +kernel
theorem s_183_182 (cl : am_C) (ls : am_Ls) (x0 : Int) (x1 : Int) (x2 : Int) (z0 : Int) (N : Nat) (I : Nat → Int → Int) (L : Nat → Int → Int64) : am_go0 cl 183 182 ls [.inl x2, .inl x1, .inl x0, .inr (.inr (some 53)), .inl z0] (am_GS N, am_GR, I, L) = am_bd (cl 136 [.inr (.inr (some 53)), .inl x0, .inl x1, .inl x2] (am_GS N, am_GR, I, L)) (fun v h2 => am_go0 cl 183 185 ls (v.toList ++ [.inl z0]) h2) := am_rV am_m183 d_183_182 am_k10022 rfl am_m136 (gs_53 N) (by decide) (Nat.le_of_ble_eq_true rfl) rfl ls
theorem d_183_185 : am_code 183 185 = some (.if_icmp .eq 577, 3) := by decide +kernel
theorem s_183_185 (cl : am_C) (ls : am_Ls) (x y : Int) (st : List am_V) (h : am_H) : am_go0 cl 183 185 ls (.inl y :: .inl x :: st) h = if x = y then am_go0 cl 183 762 ls st h else am_go0 cl 183 188 ls st h := (am_rJ0 am_m183 d_183_185 (by decide) rfl x y ls st h).trans (am_ifT (am_cmp_eq x y) _ _)
theorem d_183_188 : am_code 183 188 = some (.iconst 0, 1) := by decide +kernel
theorem s_183_188 (cl : am_C) (ls : am_Ls) (st : List am_V) (h : am_H) : am_go0 cl 183 188 ls st h = am_go0 cl 183 189 ls (.inl 0 :: st) h := am_rK am_m183 d_183_188 (by decide) rfl _ _ _
theorem d_183_189 : am_code 183 189 = some (.ireturn, 1) := by decide +kernel
theorem s_183_189 (cl : am_C) (ls : am_Ls) (x : Int) (h : am_H) : am_go0 cl 183 189 ls [.inl x] h = if x = 0 ∨ x = 1 then some (some (.inl x), h) else none := am_rRz am_m183 d_183_189 x ls h
theorem d_183_190 : am_code 183 190 = some (.aload_n 1, 1) := by decide +kernel
theorem s_183_190 (cl : am_C) (a0 a2 a3 : Option am_V) (x : Nat) (st : List am_V) (h : am_H) : am_go0 cl 183 190 [a0, some (.inr (.inr (some x))), a2, a3] st h = am_go0 cl 183 191 [a0, some (.inr (.inr (some x))), a2, a3] (.inr (.inr (some x)) :: st) h := am_r am_m183 d_183_190 rfl
theorem d_183_191 : am_code 183 191 = some (.aload_n 0, 1) := by decide +kernel
theorem s_183_191 (cl : am_C) (a1 a2 a3 : Option am_V) (x : Nat) (st : List am_V) (h : am_H) : am_go0 cl 183 191 [some (.inr (.inr (some x))), a1, a2, a3] st h = am_go0 cl 183 192 [some (.inr (.inr (some x))), a1, a2, a3] (.inr (.inr (some x)) :: st) h := am_r am_m183 d_183_191 rfl
theorem d_183_192 : am_code 183 192 = some (.iload_n 3, 1) := by decide +kernel
theorem s_183_192 (cl : am_C) (a0 a1 a2 : Option am_V) (x : Int) (st : List am_V) (h : am_H) : am_go0 cl 183 192 [a0, a1, a2, some (.inl x)] st h = am_go0 cl 183 193 [a0, a1, a2, some (.inl x)] (.inl x :: st) h := am_r am_m183 d_183_192 rfl
theorem d_183_193 : am_code 183 193 = some (.iconst 1, 1) := by decide +kernel
theorem s_183_193 (cl : am_C) (ls : am_Ls) (st : List am_V) (h : am_H) : am_go0 cl 183 193 ls st h = am_go0 cl 183 194 ls (.inl 1 :: st) h := am_rK am_m183 d_183_193 (by decide) rfl _ _ _
theorem d_183_194 : am_code 183 194 = some (.iadd, 1) := by decide +kernel
theorem s_183_194 (cl : am_C) (ls : am_Ls) (x y : Int) (st : List am_V) (h : am_H) : am_go0 cl 183 194 ls (.inl y :: .inl x :: st) h = am_go0 cl 183 195 ls (.inl (am_wr (x + y)) :: st) h := am_r am_m183 d_183_194 rfl
theorem d_183_195 : am_code 183 195 = some (.iaload, 1) := by decide +kernel
theorem s_183_195 (cl : am_C) (ls : am_Ls) (i : Int) (st : List am_V) (N : Nat) (I : Nat → Int → Int) (L : Nat → Int → Int64) (h0 : 0 ≤ i) (h1 : i < (N : Int)) : am_go0 cl 183 195 ls (.inl i :: .inr (.inr (some 0)) :: st) (am_GS N, am_GR, I, L) = am_go0 cl 183 196 ls (.inl (I 0 i) :: st) (am_GS N, am_GR, I, L) := am_rAs am_m183 d_183_195 rfl rfl ls st i N I L h0 h1
theorem d_183_196 : am_code 183 196 = some (.invokevirtual 23, 3) := by decide +kernel
theorem s_183_196 (cl : am_C) (ls : am_Ls) (x0 : Int) (N : Nat) (I : Nat → Int → Int) (L : Nat → Int → Int64) : am_go0 cl 183 196 ls [.inl x0, .inr (.inr (some 1))] (am_GS N, am_GR, I, L) = am_bd (cl 114 [.inr (.inr (some 1)), .inl x0] (am_GS N, am_GR, I, L)) (fun v h2 => am_go0 cl 183 199 ls (v.toList ++ []) h2) := am_rV am_m183 d_183_196 am_k10023 rfl am_m114 (gs_1 N) (by decide) (Nat.le_of_ble_eq_true rfl) rfl ls
theorem d_183_199 : am_code 183 199 = some (.aload_n 2, 1) := by decide +kernel
theorem s_183_199 (cl : am_C) (a0 a1 a3 : Option am_V) (x : Nat) (st : List am_V) (h : am_H) : am_go0 cl 183 199 [a0, a1, some (.inr (.inr (some x))), a3] st h = am_go0 cl 183 200 [a0, a1, some (.inr (.inr (some x))), a3] (.inr (.inr (some x)) :: st) h := am_r am_m183 d_183_199 rfl
theorem d_183_200 : am_code 183 200 = some (.aload_n 0, 1) := by decide +kernel
theorem s_183_200 (cl : am_C) (a1 a2 a3 : Option am_V) (x : Nat) (st : List am_V) (h : am_H) : am_go0 cl 183 200 [some (.inr (.inr (some x))), a1, a2, a3] st h = am_go0 cl 183 201 [some (.inr (.inr (some x))), a1, a2, a3] (.inr (.inr (some x)) :: st) h := am_r am_m183 d_183_200 rfl
theorem d_183_201 : am_code 183 201 = some (.iload_n 3, 1) := by decide +kernel
theorem s_183_201 (cl : am_C) (a0 a1 a2 : Option am_V) (x : Int) (st : List am_V) (h : am_H) : am_go0 cl 183 201 [a0, a1, a2, some (.inl x)] st h = am_go0 cl 183 202 [a0, a1, a2, some (.inl x)] (.inl x :: st) h := am_r am_m183 d_183_201 rfl
theorem d_183_202 : am_code 183 202 = some (.iconst 1, 1) := by decide +kernel
theorem s_183_202 (cl : am_C) (ls : am_Ls) (st : List am_V) (h : am_H) : am_go0 cl 183 202 ls st h = am_go0 cl 183 203 ls (.inl 1 :: st) h := am_rK am_m183 d_183_202 (by decide) rfl _ _ _
theorem d_183_203 : am_code 183 203 = some (.iadd, 1) := by decide +kernel
theorem s_183_203 (cl : am_C) (ls : am_Ls) (x y : Int) (st : List am_V) (h : am_H) : am_go0 cl 183 203 ls (.inl y :: .inl x :: st) h = am_go0 cl 183 204 ls (.inl (am_wr (x + y)) :: st) h := am_r am_m183 d_183_203 rfl
theorem d_183_204 : am_code 183 204 = some (.iaload, 1) := by decide +kernel
theorem s_183_204 (cl : am_C) (ls : am_Ls) (i : Int) (st : List am_V) (N : Nat) (I : Nat → Int → Int) (L : Nat → Int → Int64) (h0 : 0 ≤ i) (h1 : i < (N : Int)) : am_go0 cl 183 204 ls (.inl i :: .inr (.inr (some 0)) :: st) (am_GS N, am_GR, I, L) = am_go0 cl 183 205 ls (.inl (I 0 i) :: st) (am_GS N, am_GR, I, L) := am_rAs am_m183 d_183_204 rfl rfl ls st i N I L h0 h1
theorem d_183_205 : am_code 183 205 = some (.invokevirtual 26, 3) := by decide +kernel
theorem s_183_205 (cl : am_C) (ls : am_Ls) (x0 : Int) (z0 : Int) (N : Nat) (I : Nat → Int → Int) (L : Nat → Int → Int64) : am_go0 cl 183 205 ls [.inl x0, .inr (.inr (some 53)), .inl z0] (am_GS N, am_GR, I, L) = am_bd (cl 140 [.inr (.inr (some 53)), .inl x0] (am_GS N, am_GR, I, L)) (fun v h2 => am_go0 cl 183 208 ls (v.toList ++ [.inl z0]) h2) := am_rV am_m183 d_183_205 am_k10026 rfl am_m140 (gs_53 N) (by decide) (Nat.le_of_ble_eq_true rfl) rfl ls
theorem d_183_208 : am_code 183 208 = some (.if_icmp .eq 554, 3) := by decide +kernel
theorem s_183_208 (cl : am_C) (ls : am_Ls) (x y : Int) (st : List am_V) (h : am_H) : am_go0 cl 183 208 ls (.inl y :: .inl x :: st) h = if x = y then am_go0 cl 183 762 ls st h else am_go0 cl 183 211 ls st h := (am_rJ0 am_m183 d_183_208 (by decide) rfl x y ls st h).trans (am_ifT (am_cmp_eq x y) _ _)
theorem d_183_211 : am_code 183 211 = some (.iconst 0, 1) := by decide +kernel
theorem s_183_211 (cl : am_C) (ls : am_Ls) (st : List am_V) (h : am_H) : am_go0 cl 183 211 ls st h = am_go0 cl 183 212 ls (.inl 0 :: st) h := am_rK am_m183 d_183_211 (by decide) rfl _ _ _
theorem d_183_212 : am_code 183 212 = some (.ireturn, 1) := by decide +kernel
theorem s_183_212 (cl : am_C) (ls : am_Ls) (x : Int) (h : am_H) : am_go0 cl 183 212 ls [.inl x] h = if x = 0 ∨ x = 1 then some (some (.inl x), h) else none := am_rRz am_m183 d_183_212 x ls h
theorem d_183_213 : am_code 183 213 = some (.aload_n 1, 1) := by decide +kernel
theorem s_183_213 (cl : am_C) (a0 a2 a3 : Option am_V) (x : Nat) (st : List am_V) (h : am_H) : am_go0 cl 183 213 [a0, some (.inr (.inr (some x))), a2, a3] st h = am_go0 cl 183 214 [a0, some (.inr (.inr (some x))), a2, a3] (.inr (.inr (some x)) :: st) h := am_r am_m183 d_183_213 rfl
theorem d_183_214 : am_code 183 214 = some (.aload_n 0, 1) := by decide +kernel
theorem s_183_214 (cl : am_C) (a1 a2 a3 : Option am_V) (x : Nat) (st : List am_V) (h : am_H) : am_go0 cl 183 214 [some (.inr (.inr (some x))), a1, a2, a3] st h = am_go0 cl 183 215 [some (.inr (.inr (some x))), a1, a2, a3] (.inr (.inr (some x)) :: st) h := am_r am_m183 d_183_214 rfl
theorem d_183_215 : am_code 183 215 = some (.iload_n 3, 1) := by decide +kernel
theorem s_183_215 (cl : am_C) (a0 a1 a2 : Option am_V) (x : Int) (st : List am_V) (h : am_H) : am_go0 cl 183 215 [a0, a1, a2, some (.inl x)] st h = am_go0 cl 183 216 [a0, a1, a2, some (.inl x)] (.inl x :: st) h := am_r am_m183 d_183_215 rfl
theorem d_183_216 : am_code 183 216 = some (.iconst 1, 1) := by decide +kernel
theorem s_183_216 (cl : am_C) (ls : am_Ls) (st : List am_V) (h : am_H) : am_go0 cl 183 216 ls st h = am_go0 cl 183 217 ls (.inl 1 :: st) h := am_rK am_m183 d_183_216 (by decide) rfl _ _ _
theorem d_183_217 : am_code 183 217 = some (.iadd, 1) := by decide +kernel
theorem s_183_217 (cl : am_C) (ls : am_Ls) (x y : Int) (st : List am_V) (h : am_H) : am_go0 cl 183 217 ls (.inl y :: .inl x :: st) h = am_go0 cl 183 218 ls (.inl (am_wr (x + y)) :: st) h := am_r am_m183 d_183_217 rfl
theorem d_183_218 : am_code 183 218 = some (.iaload, 1) := by decide +kernel
theorem s_183_218 (cl : am_C) (ls : am_Ls) (i : Int) (st : List am_V) (N : Nat) (I : Nat → Int → Int) (L : Nat → Int → Int64) (h0 : 0 ≤ i) (h1 : i < (N : Int)) : am_go0 cl 183 218 ls (.inl i :: .inr (.inr (some 0)) :: st) (am_GS N, am_GR, I, L) = am_go0 cl 183 219 ls (.inl (I 0 i) :: st) (am_GS N, am_GR, I, L) := am_rAs am_m183 d_183_218 rfl rfl ls st i N I L h0 h1
theorem d_183_219 : am_code 183 219 = some (.aload_n 0, 1) := by decide +kernel
theorem s_183_219 (cl : am_C) (a1 a2 a3 : Option am_V) (x : Nat) (st : List am_V) (h : am_H) : am_go0 cl 183 219 [some (.inr (.inr (some x))), a1, a2, a3] st h = am_go0 cl 183 220 [some (.inr (.inr (some x))), a1, a2, a3] (.inr (.inr (some x)) :: st) h := am_r am_m183 d_183_219 rfl
theorem d_183_220 : am_code 183 220 = some (.iload_n 3, 1) := by decide +kernel
theorem s_183_220 (cl : am_C) (a0 a1 a2 : Option am_V) (x : Int) (st : List am_V) (h : am_H) : am_go0 cl 183 220 [a0, a1, a2, some (.inl x)] st h = am_go0 cl 183 221 [a0, a1, a2, some (.inl x)] (.inl x :: st) h := am_r am_m183 d_183_220 rfl
theorem d_183_221 : am_code 183 221 = some (.iconst 2, 1) := by decide +kernel
theorem s_183_221 (cl : am_C) (ls : am_Ls) (st : List am_V) (h : am_H) : am_go0 cl 183 221 ls st h = am_go0 cl 183 222 ls (.inl 2 :: st) h := am_rK am_m183 d_183_221 (by decide) rfl _ _ _
theorem d_183_222 : am_code 183 222 = some (.iadd, 1) := by decide +kernel
theorem s_183_222 (cl : am_C) (ls : am_Ls) (x y : Int) (st : List am_V) (h : am_H) : am_go0 cl 183 222 ls (.inl y :: .inl x :: st) h = am_go0 cl 183 223 ls (.inl (am_wr (x + y)) :: st) h := am_r am_m183 d_183_222 rfl
theorem d_183_223 : am_code 183 223 = some (.iaload, 1) := by decide +kernel
theorem s_183_223 (cl : am_C) (ls : am_Ls) (i : Int) (st : List am_V) (N : Nat) (I : Nat → Int → Int) (L : Nat → Int → Int64) (h0 : 0 ≤ i) (h1 : i < (N : Int)) : am_go0 cl 183 223 ls (.inl i :: .inr (.inr (some 0)) :: st) (am_GS N, am_GR, I, L) = am_go0 cl 183 224 ls (.inl (I 0 i) :: st) (am_GS N, am_GR, I, L) := am_rAs am_m183 d_183_223 rfl rfl ls st i N I L h0 h1
theorem d_183_224 : am_code 183 224 = some (.invokevirtual 27, 3) := by decide +kernel
theorem s_183_224 (cl : am_C) (ls : am_Ls) (x0 : Int) (x1 : Int) (N : Nat) (I : Nat → Int → Int) (L : Nat → Int → Int64) : am_go0 cl 183 224 ls [.inl x1, .inl x0, .inr (.inr (some 1))] (am_GS N, am_GR, I, L) = am_bd (cl 116 [.inr (.inr (some 1)), .inl x0, .inl x1] (am_GS N, am_GR, I, L)) (fun v h2 => am_go0 cl 183 227 ls (v.toList ++ []) h2) := am_rV am_m183 d_183_224 am_k10027 rfl am_m116 (gs_1 N) (by decide) (Nat.le_of_ble_eq_true rfl) rfl ls
theorem d_183_227 : am_code 183 227 = some (.aload_n 2, 1) := by decide +kernel
theorem s_183_227 (cl : am_C) (a0 a1 a3 : Option am_V) (x : Nat) (st : List am_V) (h : am_H) : am_go0 cl 183 227 [a0, a1, some (.inr (.inr (some x))), a3] st h = am_go0 cl 183 228 [a0, a1, some (.inr (.inr (some x))), a3] (.inr (.inr (some x)) :: st) h := am_r am_m183 d_183_227 rfl
theorem d_183_228 : am_code 183 228 = some (.aload_n 0, 1) := by decide +kernel
theorem s_183_228 (cl : am_C) (a1 a2 a3 : Option am_V) (x : Nat) (st : List am_V) (h : am_H) : am_go0 cl 183 228 [some (.inr (.inr (some x))), a1, a2, a3] st h = am_go0 cl 183 229 [some (.inr (.inr (some x))), a1, a2, a3] (.inr (.inr (some x)) :: st) h := am_r am_m183 d_183_228 rfl
theorem d_183_229 : am_code 183 229 = some (.iload_n 3, 1) := by decide +kernel
theorem s_183_229 (cl : am_C) (a0 a1 a2 : Option am_V) (x : Int) (st : List am_V) (h : am_H) : am_go0 cl 183 229 [a0, a1, a2, some (.inl x)] st h = am_go0 cl 183 230 [a0, a1, a2, some (.inl x)] (.inl x :: st) h := am_r am_m183 d_183_229 rfl
theorem d_183_230 : am_code 183 230 = some (.iconst 1, 1) := by decide +kernel
theorem s_183_230 (cl : am_C) (ls : am_Ls) (st : List am_V) (h : am_H) : am_go0 cl 183 230 ls st h = am_go0 cl 183 231 ls (.inl 1 :: st) h := am_rK am_m183 d_183_230 (by decide) rfl _ _ _
theorem d_183_231 : am_code 183 231 = some (.iadd, 1) := by decide +kernel
theorem s_183_231 (cl : am_C) (ls : am_Ls) (x y : Int) (st : List am_V) (h : am_H) : am_go0 cl 183 231 ls (.inl y :: .inl x :: st) h = am_go0 cl 183 232 ls (.inl (am_wr (x + y)) :: st) h := am_r am_m183 d_183_231 rfl
theorem d_183_232 : am_code 183 232 = some (.iaload, 1) := by decide +kernel
theorem s_183_232 (cl : am_C) (ls : am_Ls) (i : Int) (st : List am_V) (N : Nat) (I : Nat → Int → Int) (L : Nat → Int → Int64) (h0 : 0 ≤ i) (h1 : i < (N : Int)) : am_go0 cl 183 232 ls (.inl i :: .inr (.inr (some 0)) :: st) (am_GS N, am_GR, I, L) = am_go0 cl 183 233 ls (.inl (I 0 i) :: st) (am_GS N, am_GR, I, L) := am_rAs am_m183 d_183_232 rfl rfl ls st i N I L h0 h1
theorem d_183_233 : am_code 183 233 = some (.aload_n 0, 1) := by decide +kernel
theorem s_183_233 (cl : am_C) (a1 a2 a3 : Option am_V) (x : Nat) (st : List am_V) (h : am_H) : am_go0 cl 183 233 [some (.inr (.inr (some x))), a1, a2, a3] st h = am_go0 cl 183 234 [some (.inr (.inr (some x))), a1, a2, a3] (.inr (.inr (some x)) :: st) h := am_r am_m183 d_183_233 rfl
theorem d_183_234 : am_code 183 234 = some (.iload_n 3, 1) := by decide +kernel
theorem s_183_234 (cl : am_C) (a0 a1 a2 : Option am_V) (x : Int) (st : List am_V) (h : am_H) : am_go0 cl 183 234 [a0, a1, a2, some (.inl x)] st h = am_go0 cl 183 235 [a0, a1, a2, some (.inl x)] (.inl x :: st) h := am_r am_m183 d_183_234 rfl
theorem d_183_235 : am_code 183 235 = some (.iconst 2, 1) := by decide +kernel
theorem s_183_235 (cl : am_C) (ls : am_Ls) (st : List am_V) (h : am_H) : am_go0 cl 183 235 ls st h = am_go0 cl 183 236 ls (.inl 2 :: st) h := am_rK am_m183 d_183_235 (by decide) rfl _ _ _
theorem d_183_236 : am_code 183 236 = some (.iadd, 1) := by decide +kernel
theorem s_183_236 (cl : am_C) (ls : am_Ls) (x y : Int) (st : List am_V) (h : am_H) : am_go0 cl 183 236 ls (.inl y :: .inl x :: st) h = am_go0 cl 183 237 ls (.inl (am_wr (x + y)) :: st) h := am_r am_m183 d_183_236 rfl
theorem d_183_237 : am_code 183 237 = some (.iaload, 1) := by decide +kernel
theorem s_183_237 (cl : am_C) (ls : am_Ls) (i : Int) (st : List am_V) (N : Nat) (I : Nat → Int → Int) (L : Nat → Int → Int64) (h0 : 0 ≤ i) (h1 : i < (N : Int)) : am_go0 cl 183 237 ls (.inl i :: .inr (.inr (some 0)) :: st) (am_GS N, am_GR, I, L) = am_go0 cl 183 238 ls (.inl (I 0 i) :: st) (am_GS N, am_GR, I, L) := am_rAs am_m183 d_183_237 rfl rfl ls st i N I L h0 h1
theorem d_183_238 : am_code 183 238 = some (.invokevirtual 31, 3) := by decide +kernel
theorem s_183_238 (cl : am_C) (ls : am_Ls) (x0 : Int) (x1 : Int) (z0 : Int) (N : Nat) (I : Nat → Int → Int) (L : Nat → Int → Int64) : am_go0 cl 183 238 ls [.inl x1, .inl x0, .inr (.inr (some 53)), .inl z0] (am_GS N, am_GR, I, L) = am_bd (cl 142 [.inr (.inr (some 53)), .inl x0, .inl x1] (am_GS N, am_GR, I, L)) (fun v h2 => am_go0 cl 183 241 ls (v.toList ++ [.inl z0]) h2) := am_rV am_m183 d_183_238 am_k10031 rfl am_m142 (gs_53 N) (by decide) (Nat.le_of_ble_eq_true rfl) rfl ls
theorem d_183_241 : am_code 183 241 = some (.if_icmp .eq 521, 3) := by decide +kernel
theorem s_183_241 (cl : am_C) (ls : am_Ls) (x y : Int) (st : List am_V) (h : am_H) : am_go0 cl 183 241 ls (.inl y :: .inl x :: st) h = if x = y then am_go0 cl 183 762 ls st h else am_go0 cl 183 244 ls st h := (am_rJ0 am_m183 d_183_241 (by decide) rfl x y ls st h).trans (am_ifT (am_cmp_eq x y) _ _)
theorem d_183_244 : am_code 183 244 = some (.iconst 0, 1) := by decide +kernel
theorem s_183_244 (cl : am_C) (ls : am_Ls) (st : List am_V) (h : am_H) : am_go0 cl 183 244 ls st h = am_go0 cl 183 245 ls (.inl 0 :: st) h := am_rK am_m183 d_183_244 (by decide) rfl _ _ _
theorem d_183_245 : am_code 183 245 = some (.ireturn, 1) := by decide +kernel
theorem s_183_245 (cl : am_C) (ls : am_Ls) (x : Int) (h : am_H) : am_go0 cl 183 245 ls [.inl x] h = if x = 0 ∨ x = 1 then some (some (.inl x), h) else none := am_rRz am_m183 d_183_245 x ls h
theorem d_183_246 : am_code 183 246 = some (.aload_n 1, 1) := by decide +kernel
theorem s_183_246 (cl : am_C) (a0 a2 a3 : Option am_V) (x : Nat) (st : List am_V) (h : am_H) : am_go0 cl 183 246 [a0, some (.inr (.inr (some x))), a2, a3] st h = am_go0 cl 183 247 [a0, some (.inr (.inr (some x))), a2, a3] (.inr (.inr (some x)) :: st) h := am_r am_m183 d_183_246 rfl
theorem d_183_247 : am_code 183 247 = some (.aload_n 0, 1) := by decide +kernel
theorem s_183_247 (cl : am_C) (a1 a2 a3 : Option am_V) (x : Nat) (st : List am_V) (h : am_H) : am_go0 cl 183 247 [some (.inr (.inr (some x))), a1, a2, a3] st h = am_go0 cl 183 248 [some (.inr (.inr (some x))), a1, a2, a3] (.inr (.inr (some x)) :: st) h := am_r am_m183 d_183_247 rfl
theorem d_183_248 : am_code 183 248 = some (.iload_n 3, 1) := by decide +kernel
theorem s_183_248 (cl : am_C) (a0 a1 a2 : Option am_V) (x : Int) (st : List am_V) (h : am_H) : am_go0 cl 183 248 [a0, a1, a2, some (.inl x)] st h = am_go0 cl 183 249 [a0, a1, a2, some (.inl x)] (.inl x :: st) h := am_r am_m183 d_183_248 rfl
theorem d_183_249 : am_code 183 249 = some (.iconst 1, 1) := by decide +kernel
theorem s_183_249 (cl : am_C) (ls : am_Ls) (st : List am_V) (h : am_H) : am_go0 cl 183 249 ls st h = am_go0 cl 183 250 ls (.inl 1 :: st) h := am_rK am_m183 d_183_249 (by decide) rfl _ _ _
theorem d_183_250 : am_code 183 250 = some (.iadd, 1) := by decide +kernel
theorem s_183_250 (cl : am_C) (ls : am_Ls) (x y : Int) (st : List am_V) (h : am_H) : am_go0 cl 183 250 ls (.inl y :: .inl x :: st) h = am_go0 cl 183 251 ls (.inl (am_wr (x + y)) :: st) h := am_r am_m183 d_183_250 rfl
theorem d_183_251 : am_code 183 251 = some (.iaload, 1) := by decide +kernel
theorem s_183_251 (cl : am_C) (ls : am_Ls) (i : Int) (st : List am_V) (N : Nat) (I : Nat → Int → Int) (L : Nat → Int → Int64) (h0 : 0 ≤ i) (h1 : i < (N : Int)) : am_go0 cl 183 251 ls (.inl i :: .inr (.inr (some 0)) :: st) (am_GS N, am_GR, I, L) = am_go0 cl 183 252 ls (.inl (I 0 i) :: st) (am_GS N, am_GR, I, L) := am_rAs am_m183 d_183_251 rfl rfl ls st i N I L h0 h1
theorem d_183_252 : am_code 183 252 = some (.aload_n 0, 1) := by decide +kernel
theorem s_183_252 (cl : am_C) (a1 a2 a3 : Option am_V) (x : Nat) (st : List am_V) (h : am_H) : am_go0 cl 183 252 [some (.inr (.inr (some x))), a1, a2, a3] st h = am_go0 cl 183 253 [some (.inr (.inr (some x))), a1, a2, a3] (.inr (.inr (some x)) :: st) h := am_r am_m183 d_183_252 rfl
theorem d_183_253 : am_code 183 253 = some (.iload_n 3, 1) := by decide +kernel
theorem s_183_253 (cl : am_C) (a0 a1 a2 : Option am_V) (x : Int) (st : List am_V) (h : am_H) : am_go0 cl 183 253 [a0, a1, a2, some (.inl x)] st h = am_go0 cl 183 254 [a0, a1, a2, some (.inl x)] (.inl x :: st) h := am_r am_m183 d_183_253 rfl
theorem d_183_254 : am_code 183 254 = some (.iconst 2, 1) := by decide +kernel
theorem s_183_254 (cl : am_C) (ls : am_Ls) (st : List am_V) (h : am_H) : am_go0 cl 183 254 ls st h = am_go0 cl 183 255 ls (.inl 2 :: st) h := am_rK am_m183 d_183_254 (by decide) rfl _ _ _
theorem d_183_255 : am_code 183 255 = some (.iadd, 1) := by decide +kernel
theorem s_183_255 (cl : am_C) (ls : am_Ls) (x y : Int) (st : List am_V) (h : am_H) : am_go0 cl 183 255 ls (.inl y :: .inl x :: st) h = am_go0 cl 183 256 ls (.inl (am_wr (x + y)) :: st) h := am_r am_m183 d_183_255 rfl
theorem d_183_256 : am_code 183 256 = some (.iaload, 1) := by decide +kernel
theorem s_183_256 (cl : am_C) (ls : am_Ls) (i : Int) (st : List am_V) (N : Nat) (I : Nat → Int → Int) (L : Nat → Int → Int64) (h0 : 0 ≤ i) (h1 : i < (N : Int)) : am_go0 cl 183 256 ls (.inl i :: .inr (.inr (some 0)) :: st) (am_GS N, am_GR, I, L) = am_go0 cl 183 257 ls (.inl (I 0 i) :: st) (am_GS N, am_GR, I, L) := am_rAs am_m183 d_183_256 rfl rfl ls st i N I L h0 h1
theorem d_183_257 : am_code 183 257 = some (.invokevirtual 32, 3) := by decide +kernel
theorem s_183_257 (cl : am_C) (ls : am_Ls) (x0 : Int) (x1 : Int) (N : Nat) (I : Nat → Int → Int) (L : Nat → Int → Int64) : am_go0 cl 183 257 ls [.inl x1, .inl x0, .inr (.inr (some 1))] (am_GS N, am_GR, I, L) = am_bd (cl 117 [.inr (.inr (some 1)), .inl x0, .inl x1] (am_GS N, am_GR, I, L)) (fun v h2 => am_go0 cl 183 260 ls (v.toList ++ []) h2) := am_rV am_m183 d_183_257 am_k10032 rfl am_m117 (gs_1 N) (by decide) (Nat.le_of_ble_eq_true rfl) rfl ls
theorem d_183_260 : am_code 183 260 = some (.aload_n 2, 1) := by decide +kernel
theorem s_183_260 (cl : am_C) (a0 a1 a3 : Option am_V) (x : Nat) (st : List am_V) (h : am_H) : am_go0 cl 183 260 [a0, a1, some (.inr (.inr (some x))), a3] st h = am_go0 cl 183 261 [a0, a1, some (.inr (.inr (some x))), a3] (.inr (.inr (some x)) :: st) h := am_r am_m183 d_183_260 rfl
theorem d_183_261 : am_code 183 261 = some (.aload_n 0, 1) := by decide +kernel
theorem s_183_261 (cl : am_C) (a1 a2 a3 : Option am_V) (x : Nat) (st : List am_V) (h : am_H) : am_go0 cl 183 261 [some (.inr (.inr (some x))), a1, a2, a3] st h = am_go0 cl 183 262 [some (.inr (.inr (some x))), a1, a2, a3] (.inr (.inr (some x)) :: st) h := am_r am_m183 d_183_261 rfl
theorem d_183_262 : am_code 183 262 = some (.iload_n 3, 1) := by decide +kernel
theorem s_183_262 (cl : am_C) (a0 a1 a2 : Option am_V) (x : Int) (st : List am_V) (h : am_H) : am_go0 cl 183 262 [a0, a1, a2, some (.inl x)] st h = am_go0 cl 183 263 [a0, a1, a2, some (.inl x)] (.inl x :: st) h := am_r am_m183 d_183_262 rfl
theorem d_183_263 : am_code 183 263 = some (.iconst 1, 1) := by decide +kernel
theorem s_183_263 (cl : am_C) (ls : am_Ls) (st : List am_V) (h : am_H) : am_go0 cl 183 263 ls st h = am_go0 cl 183 264 ls (.inl 1 :: st) h := am_rK am_m183 d_183_263 (by decide) rfl _ _ _
theorem d_183_264 : am_code 183 264 = some (.iadd, 1) := by decide +kernel
theorem s_183_264 (cl : am_C) (ls : am_Ls) (x y : Int) (st : List am_V) (h : am_H) : am_go0 cl 183 264 ls (.inl y :: .inl x :: st) h = am_go0 cl 183 265 ls (.inl (am_wr (x + y)) :: st) h := am_r am_m183 d_183_264 rfl
theorem d_183_265 : am_code 183 265 = some (.iaload, 1) := by decide +kernel
theorem s_183_265 (cl : am_C) (ls : am_Ls) (i : Int) (st : List am_V) (N : Nat) (I : Nat → Int → Int) (L : Nat → Int → Int64) (h0 : 0 ≤ i) (h1 : i < (N : Int)) : am_go0 cl 183 265 ls (.inl i :: .inr (.inr (some 0)) :: st) (am_GS N, am_GR, I, L) = am_go0 cl 183 266 ls (.inl (I 0 i) :: st) (am_GS N, am_GR, I, L) := am_rAs am_m183 d_183_265 rfl rfl ls st i N I L h0 h1
theorem d_183_266 : am_code 183 266 = some (.aload_n 0, 1) := by decide +kernel
theorem s_183_266 (cl : am_C) (a1 a2 a3 : Option am_V) (x : Nat) (st : List am_V) (h : am_H) : am_go0 cl 183 266 [some (.inr (.inr (some x))), a1, a2, a3] st h = am_go0 cl 183 267 [some (.inr (.inr (some x))), a1, a2, a3] (.inr (.inr (some x)) :: st) h := am_r am_m183 d_183_266 rfl
theorem d_183_267 : am_code 183 267 = some (.iload_n 3, 1) := by decide +kernel
theorem s_183_267 (cl : am_C) (a0 a1 a2 : Option am_V) (x : Int) (st : List am_V) (h : am_H) : am_go0 cl 183 267 [a0, a1, a2, some (.inl x)] st h = am_go0 cl 183 268 [a0, a1, a2, some (.inl x)] (.inl x :: st) h := am_r am_m183 d_183_267 rfl
theorem d_183_268 : am_code 183 268 = some (.iconst 2, 1) := by decide +kernel
theorem s_183_268 (cl : am_C) (ls : am_Ls) (st : List am_V) (h : am_H) : am_go0 cl 183 268 ls st h = am_go0 cl 183 269 ls (.inl 2 :: st) h := am_rK am_m183 d_183_268 (by decide) rfl _ _ _
theorem d_183_269 : am_code 183 269 = some (.iadd, 1) := by decide +kernel
theorem s_183_269 (cl : am_C) (ls : am_Ls) (x y : Int) (st : List am_V) (h : am_H) : am_go0 cl 183 269 ls (.inl y :: .inl x :: st) h = am_go0 cl 183 270 ls (.inl (am_wr (x + y)) :: st) h := am_r am_m183 d_183_269 rfl
theorem d_183_270 : am_code 183 270 = some (.iaload, 1) := by decide +kernel
theorem s_183_270 (cl : am_C) (ls : am_Ls) (i : Int) (st : List am_V) (N : Nat) (I : Nat → Int → Int) (L : Nat → Int → Int64) (h0 : 0 ≤ i) (h1 : i < (N : Int)) : am_go0 cl 183 270 ls (.inl i :: .inr (.inr (some 0)) :: st) (am_GS N, am_GR, I, L) = am_go0 cl 183 271 ls (.inl (I 0 i) :: st) (am_GS N, am_GR, I, L) := am_rAs am_m183 d_183_270 rfl rfl ls st i N I L h0 h1
theorem d_183_271 : am_code 183 271 = some (.invokevirtual 35, 3) := by decide +kernel
theorem s_183_271 (cl : am_C) (ls : am_Ls) (x0 : Int) (x1 : Int) (z0 : Int) (N : Nat) (I : Nat → Int → Int) (L : Nat → Int → Int64) : am_go0 cl 183 271 ls [.inl x1, .inl x0, .inr (.inr (some 53)), .inl z0] (am_GS N, am_GR, I, L) = am_bd (cl 144 [.inr (.inr (some 53)), .inl x0, .inl x1] (am_GS N, am_GR, I, L)) (fun v h2 => am_go0 cl 183 274 ls (v.toList ++ [.inl z0]) h2) := am_rV am_m183 d_183_271 am_k10035 rfl am_m144 (gs_53 N) (by decide) (Nat.le_of_ble_eq_true rfl) rfl ls
theorem d_183_274 : am_code 183 274 = some (.if_icmp .eq 488, 3) := by decide +kernel
theorem s_183_274 (cl : am_C) (ls : am_Ls) (x y : Int) (st : List am_V) (h : am_H) : am_go0 cl 183 274 ls (.inl y :: .inl x :: st) h = if x = y then am_go0 cl 183 762 ls st h else am_go0 cl 183 277 ls st h := (am_rJ0 am_m183 d_183_274 (by decide) rfl x y ls st h).trans (am_ifT (am_cmp_eq x y) _ _)
theorem d_183_277 : am_code 183 277 = some (.iconst 0, 1) := by decide +kernel
theorem s_183_277 (cl : am_C) (ls : am_Ls) (st : List am_V) (h : am_H) : am_go0 cl 183 277 ls st h = am_go0 cl 183 278 ls (.inl 0 :: st) h := am_rK am_m183 d_183_277 (by decide) rfl _ _ _
theorem d_183_278 : am_code 183 278 = some (.ireturn, 1) := by decide +kernel
theorem s_183_278 (cl : am_C) (ls : am_Ls) (x : Int) (h : am_H) : am_go0 cl 183 278 ls [.inl x] h = if x = 0 ∨ x = 1 then some (some (.inl x), h) else none := am_rRz am_m183 d_183_278 x ls h
theorem d_183_279 : am_code 183 279 = some (.aload_n 1, 1) := by decide +kernel
theorem s_183_279 (cl : am_C) (a0 a2 a3 : Option am_V) (x : Nat) (st : List am_V) (h : am_H) : am_go0 cl 183 279 [a0, some (.inr (.inr (some x))), a2, a3] st h = am_go0 cl 183 280 [a0, some (.inr (.inr (some x))), a2, a3] (.inr (.inr (some x)) :: st) h := am_r am_m183 d_183_279 rfl
theorem d_183_280 : am_code 183 280 = some (.aload_n 0, 1) := by decide +kernel
theorem s_183_280 (cl : am_C) (a1 a2 a3 : Option am_V) (x : Nat) (st : List am_V) (h : am_H) : am_go0 cl 183 280 [some (.inr (.inr (some x))), a1, a2, a3] st h = am_go0 cl 183 281 [some (.inr (.inr (some x))), a1, a2, a3] (.inr (.inr (some x)) :: st) h := am_r am_m183 d_183_280 rfl
theorem d_183_281 : am_code 183 281 = some (.iload_n 3, 1) := by decide +kernel
theorem s_183_281 (cl : am_C) (a0 a1 a2 : Option am_V) (x : Int) (st : List am_V) (h : am_H) : am_go0 cl 183 281 [a0, a1, a2, some (.inl x)] st h = am_go0 cl 183 282 [a0, a1, a2, some (.inl x)] (.inl x :: st) h := am_r am_m183 d_183_281 rfl
theorem d_183_282 : am_code 183 282 = some (.iconst 1, 1) := by decide +kernel
theorem s_183_282 (cl : am_C) (ls : am_Ls) (st : List am_V) (h : am_H) : am_go0 cl 183 282 ls st h = am_go0 cl 183 283 ls (.inl 1 :: st) h := am_rK am_m183 d_183_282 (by decide) rfl _ _ _
theorem d_183_283 : am_code 183 283 = some (.iadd, 1) := by decide +kernel
theorem s_183_283 (cl : am_C) (ls : am_Ls) (x y : Int) (st : List am_V) (h : am_H) : am_go0 cl 183 283 ls (.inl y :: .inl x :: st) h = am_go0 cl 183 284 ls (.inl (am_wr (x + y)) :: st) h := am_r am_m183 d_183_283 rfl
theorem d_183_284 : am_code 183 284 = some (.iaload, 1) := by decide +kernel
theorem s_183_284 (cl : am_C) (ls : am_Ls) (i : Int) (st : List am_V) (N : Nat) (I : Nat → Int → Int) (L : Nat → Int → Int64) (h0 : 0 ≤ i) (h1 : i < (N : Int)) : am_go0 cl 183 284 ls (.inl i :: .inr (.inr (some 0)) :: st) (am_GS N, am_GR, I, L) = am_go0 cl 183 285 ls (.inl (I 0 i) :: st) (am_GS N, am_GR, I, L) := am_rAs am_m183 d_183_284 rfl rfl ls st i N I L h0 h1
theorem d_183_285 : am_code 183 285 = some (.aload_n 0, 1) := by decide +kernel
theorem s_183_285 (cl : am_C) (a1 a2 a3 : Option am_V) (x : Nat) (st : List am_V) (h : am_H) : am_go0 cl 183 285 [some (.inr (.inr (some x))), a1, a2, a3] st h = am_go0 cl 183 286 [some (.inr (.inr (some x))), a1, a2, a3] (.inr (.inr (some x)) :: st) h := am_r am_m183 d_183_285 rfl
theorem d_183_286 : am_code 183 286 = some (.iload_n 3, 1) := by decide +kernel
theorem s_183_286 (cl : am_C) (a0 a1 a2 : Option am_V) (x : Int) (st : List am_V) (h : am_H) : am_go0 cl 183 286 [a0, a1, a2, some (.inl x)] st h = am_go0 cl 183 287 [a0, a1, a2, some (.inl x)] (.inl x :: st) h := am_r am_m183 d_183_286 rfl
theorem d_183_287 : am_code 183 287 = some (.iconst 2, 1) := by decide +kernel
theorem s_183_287 (cl : am_C) (ls : am_Ls) (st : List am_V) (h : am_H) : am_go0 cl 183 287 ls st h = am_go0 cl 183 288 ls (.inl 2 :: st) h := am_rK am_m183 d_183_287 (by decide) rfl _ _ _
theorem d_183_288 : am_code 183 288 = some (.iadd, 1) := by decide +kernel
theorem s_183_288 (cl : am_C) (ls : am_Ls) (x y : Int) (st : List am_V) (h : am_H) : am_go0 cl 183 288 ls (.inl y :: .inl x :: st) h = am_go0 cl 183 289 ls (.inl (am_wr (x + y)) :: st) h := am_r am_m183 d_183_288 rfl
theorem d_183_289 : am_code 183 289 = some (.iaload, 1) := by decide +kernel
theorem s_183_289 (cl : am_C) (ls : am_Ls) (i : Int) (st : List am_V) (N : Nat) (I : Nat → Int → Int) (L : Nat → Int → Int64) (h0 : 0 ≤ i) (h1 : i < (N : Int)) : am_go0 cl 183 289 ls (.inl i :: .inr (.inr (some 0)) :: st) (am_GS N, am_GR, I, L) = am_go0 cl 183 290 ls (.inl (I 0 i) :: st) (am_GS N, am_GR, I, L) := am_rAs am_m183 d_183_289 rfl rfl ls st i N I L h0 h1
theorem d_183_290 : am_code 183 290 = some (.aload_n 0, 1) := by decide +kernel
theorem s_183_290 (cl : am_C) (a1 a2 a3 : Option am_V) (x : Nat) (st : List am_V) (h : am_H) : am_go0 cl 183 290 [some (.inr (.inr (some x))), a1, a2, a3] st h = am_go0 cl 183 291 [some (.inr (.inr (some x))), a1, a2, a3] (.inr (.inr (some x)) :: st) h := am_r am_m183 d_183_290 rfl
theorem d_183_291 : am_code 183 291 = some (.iload_n 3, 1) := by decide +kernel
theorem s_183_291 (cl : am_C) (a0 a1 a2 : Option am_V) (x : Int) (st : List am_V) (h : am_H) : am_go0 cl 183 291 [a0, a1, a2, some (.inl x)] st h = am_go0 cl 183 292 [a0, a1, a2, some (.inl x)] (.inl x :: st) h := am_r am_m183 d_183_291 rfl
theorem d_183_292 : am_code 183 292 = some (.iconst 3, 1) := by decide +kernel
theorem s_183_292 (cl : am_C) (ls : am_Ls) (st : List am_V) (h : am_H) : am_go0 cl 183 292 ls st h = am_go0 cl 183 293 ls (.inl 3 :: st) h := am_rK am_m183 d_183_292 (by decide) rfl _ _ _
theorem d_183_293 : am_code 183 293 = some (.iadd, 1) := by decide +kernel
theorem s_183_293 (cl : am_C) (ls : am_Ls) (x y : Int) (st : List am_V) (h : am_H) : am_go0 cl 183 293 ls (.inl y :: .inl x :: st) h = am_go0 cl 183 294 ls (.inl (am_wr (x + y)) :: st) h := am_r am_m183 d_183_293 rfl
theorem d_183_294 : am_code 183 294 = some (.iaload, 1) := by decide +kernel
theorem s_183_294 (cl : am_C) (ls : am_Ls) (i : Int) (st : List am_V) (N : Nat) (I : Nat → Int → Int) (L : Nat → Int → Int64) (h0 : 0 ≤ i) (h1 : i < (N : Int)) : am_go0 cl 183 294 ls (.inl i :: .inr (.inr (some 0)) :: st) (am_GS N, am_GR, I, L) = am_go0 cl 183 295 ls (.inl (I 0 i) :: st) (am_GS N, am_GR, I, L) := am_rAs am_m183 d_183_294 rfl rfl ls st i N I L h0 h1
theorem d_183_295 : am_code 183 295 = some (.invokevirtual 36, 3) := by decide +kernel
theorem s_183_295 (cl : am_C) (ls : am_Ls) (x0 : Int) (x1 : Int) (x2 : Int) (N : Nat) (I : Nat → Int → Int) (L : Nat → Int → Int64) : am_go0 cl 183 295 ls [.inl x2, .inl x1, .inl x0, .inr (.inr (some 1))] (am_GS N, am_GR, I, L) = am_bd (cl 118 [.inr (.inr (some 1)), .inl x0, .inl x1, .inl x2] (am_GS N, am_GR, I, L)) (fun v h2 => am_go0 cl 183 298 ls (v.toList ++ []) h2) := am_rV am_m183 d_183_295 am_k10036 rfl am_m118 (gs_1 N) (by decide) (Nat.le_of_ble_eq_true rfl) rfl ls
theorem d_183_298 : am_code 183 298 = some (.aload_n 2, 1) := by decide +kernel
theorem s_183_298 (cl : am_C) (a0 a1 a3 : Option am_V) (x : Nat) (st : List am_V) (h : am_H) : am_go0 cl 183 298 [a0, a1, some (.inr (.inr (some x))), a3] st h = am_go0 cl 183 299 [a0, a1, some (.inr (.inr (some x))), a3] (.inr (.inr (some x)) :: st) h := am_r am_m183 d_183_298 rfl
theorem d_183_299 : am_code 183 299 = some (.aload_n 0, 1) := by decide +kernel
theorem s_183_299 (cl : am_C) (a1 a2 a3 : Option am_V) (x : Nat) (st : List am_V) (h : am_H) : am_go0 cl 183 299 [some (.inr (.inr (some x))), a1, a2, a3] st h = am_go0 cl 183 300 [some (.inr (.inr (some x))), a1, a2, a3] (.inr (.inr (some x)) :: st) h := am_r am_m183 d_183_299 rfl
theorem d_183_300 : am_code 183 300 = some (.iload_n 3, 1) := by decide +kernel
theorem s_183_300 (cl : am_C) (a0 a1 a2 : Option am_V) (x : Int) (st : List am_V) (h : am_H) : am_go0 cl 183 300 [a0, a1, a2, some (.inl x)] st h = am_go0 cl 183 301 [a0, a1, a2, some (.inl x)] (.inl x :: st) h := am_r am_m183 d_183_300 rfl
theorem d_183_301 : am_code 183 301 = some (.iconst 1, 1) := by decide +kernel
theorem s_183_301 (cl : am_C) (ls : am_Ls) (st : List am_V) (h : am_H) : am_go0 cl 183 301 ls st h = am_go0 cl 183 302 ls (.inl 1 :: st) h := am_rK am_m183 d_183_301 (by decide) rfl _ _ _
theorem d_183_302 : am_code 183 302 = some (.iadd, 1) := by decide +kernel
theorem s_183_302 (cl : am_C) (ls : am_Ls) (x y : Int) (st : List am_V) (h : am_H) : am_go0 cl 183 302 ls (.inl y :: .inl x :: st) h = am_go0 cl 183 303 ls (.inl (am_wr (x + y)) :: st) h := am_r am_m183 d_183_302 rfl
theorem d_183_303 : am_code 183 303 = some (.iaload, 1) := by decide +kernel
theorem s_183_303 (cl : am_C) (ls : am_Ls) (i : Int) (st : List am_V) (N : Nat) (I : Nat → Int → Int) (L : Nat → Int → Int64) (h0 : 0 ≤ i) (h1 : i < (N : Int)) : am_go0 cl 183 303 ls (.inl i :: .inr (.inr (some 0)) :: st) (am_GS N, am_GR, I, L) = am_go0 cl 183 304 ls (.inl (I 0 i) :: st) (am_GS N, am_GR, I, L) := am_rAs am_m183 d_183_303 rfl rfl ls st i N I L h0 h1
theorem d_183_304 : am_code 183 304 = some (.aload_n 0, 1) := by decide +kernel
theorem s_183_304 (cl : am_C) (a1 a2 a3 : Option am_V) (x : Nat) (st : List am_V) (h : am_H) : am_go0 cl 183 304 [some (.inr (.inr (some x))), a1, a2, a3] st h = am_go0 cl 183 305 [some (.inr (.inr (some x))), a1, a2, a3] (.inr (.inr (some x)) :: st) h := am_r am_m183 d_183_304 rfl
theorem d_183_305 : am_code 183 305 = some (.iload_n 3, 1) := by decide +kernel
theorem s_183_305 (cl : am_C) (a0 a1 a2 : Option am_V) (x : Int) (st : List am_V) (h : am_H) : am_go0 cl 183 305 [a0, a1, a2, some (.inl x)] st h = am_go0 cl 183 306 [a0, a1, a2, some (.inl x)] (.inl x :: st) h := am_r am_m183 d_183_305 rfl
theorem d_183_306 : am_code 183 306 = some (.iconst 2, 1) := by decide +kernel
theorem s_183_306 (cl : am_C) (ls : am_Ls) (st : List am_V) (h : am_H) : am_go0 cl 183 306 ls st h = am_go0 cl 183 307 ls (.inl 2 :: st) h := am_rK am_m183 d_183_306 (by decide) rfl _ _ _
theorem d_183_307 : am_code 183 307 = some (.iadd, 1) := by decide +kernel
theorem s_183_307 (cl : am_C) (ls : am_Ls) (x y : Int) (st : List am_V) (h : am_H) : am_go0 cl 183 307 ls (.inl y :: .inl x :: st) h = am_go0 cl 183 308 ls (.inl (am_wr (x + y)) :: st) h := am_r am_m183 d_183_307 rfl
theorem d_183_308 : am_code 183 308 = some (.iaload, 1) := by decide +kernel
theorem s_183_308 (cl : am_C) (ls : am_Ls) (i : Int) (st : List am_V) (N : Nat) (I : Nat → Int → Int) (L : Nat → Int → Int64) (h0 : 0 ≤ i) (h1 : i < (N : Int)) : am_go0 cl 183 308 ls (.inl i :: .inr (.inr (some 0)) :: st) (am_GS N, am_GR, I, L) = am_go0 cl 183 309 ls (.inl (I 0 i) :: st) (am_GS N, am_GR, I, L) := am_rAs am_m183 d_183_308 rfl rfl ls st i N I L h0 h1
theorem d_183_309 : am_code 183 309 = some (.aload_n 0, 1) := by decide +kernel
theorem s_183_309 (cl : am_C) (a1 a2 a3 : Option am_V) (x : Nat) (st : List am_V) (h : am_H) : am_go0 cl 183 309 [some (.inr (.inr (some x))), a1, a2, a3] st h = am_go0 cl 183 310 [some (.inr (.inr (some x))), a1, a2, a3] (.inr (.inr (some x)) :: st) h := am_r am_m183 d_183_309 rfl
theorem d_183_310 : am_code 183 310 = some (.iload_n 3, 1) := by decide +kernel
theorem s_183_310 (cl : am_C) (a0 a1 a2 : Option am_V) (x : Int) (st : List am_V) (h : am_H) : am_go0 cl 183 310 [a0, a1, a2, some (.inl x)] st h = am_go0 cl 183 311 [a0, a1, a2, some (.inl x)] (.inl x :: st) h := am_r am_m183 d_183_310 rfl
theorem d_183_311 : am_code 183 311 = some (.iconst 3, 1) := by decide +kernel
theorem s_183_311 (cl : am_C) (ls : am_Ls) (st : List am_V) (h : am_H) : am_go0 cl 183 311 ls st h = am_go0 cl 183 312 ls (.inl 3 :: st) h := am_rK am_m183 d_183_311 (by decide) rfl _ _ _
theorem d_183_312 : am_code 183 312 = some (.iadd, 1) := by decide +kernel
theorem s_183_312 (cl : am_C) (ls : am_Ls) (x y : Int) (st : List am_V) (h : am_H) : am_go0 cl 183 312 ls (.inl y :: .inl x :: st) h = am_go0 cl 183 313 ls (.inl (am_wr (x + y)) :: st) h := am_r am_m183 d_183_312 rfl
theorem d_183_313 : am_code 183 313 = some (.iaload, 1) := by decide +kernel
theorem s_183_313 (cl : am_C) (ls : am_Ls) (i : Int) (st : List am_V) (N : Nat) (I : Nat → Int → Int) (L : Nat → Int → Int64) (h0 : 0 ≤ i) (h1 : i < (N : Int)) : am_go0 cl 183 313 ls (.inl i :: .inr (.inr (some 0)) :: st) (am_GS N, am_GR, I, L) = am_go0 cl 183 314 ls (.inl (I 0 i) :: st) (am_GS N, am_GR, I, L) := am_rAs am_m183 d_183_313 rfl rfl ls st i N I L h0 h1
theorem d_183_314 : am_code 183 314 = some (.invokevirtual 39, 3) := by decide +kernel
theorem s_183_314 (cl : am_C) (ls : am_Ls) (x0 : Int) (x1 : Int) (x2 : Int) (z0 : Int) (N : Nat) (I : Nat → Int → Int) (L : Nat → Int → Int64) : am_go0 cl 183 314 ls [.inl x2, .inl x1, .inl x0, .inr (.inr (some 53)), .inl z0] (am_GS N, am_GR, I, L) = am_bd (cl 146 [.inr (.inr (some 53)), .inl x0, .inl x1, .inl x2] (am_GS N, am_GR, I, L)) (fun v h2 => am_go0 cl 183 317 ls (v.toList ++ [.inl z0]) h2) := am_rV am_m183 d_183_314 am_k10039 rfl am_m146 (gs_53 N) (by decide) (Nat.le_of_ble_eq_true rfl) rfl ls
theorem d_183_317 : am_code 183 317 = some (.if_icmp .eq 445, 3) := by decide +kernel
theorem s_183_317 (cl : am_C) (ls : am_Ls) (x y : Int) (st : List am_V) (h : am_H) : am_go0 cl 183 317 ls (.inl y :: .inl x :: st) h = if x = y then am_go0 cl 183 762 ls st h else am_go0 cl 183 320 ls st h := (am_rJ0 am_m183 d_183_317 (by decide) rfl x y ls st h).trans (am_ifT (am_cmp_eq x y) _ _)
theorem d_183_320 : am_code 183 320 = some (.iconst 0, 1) := by decide +kernel
theorem s_183_320 (cl : am_C) (ls : am_Ls) (st : List am_V) (h : am_H) : am_go0 cl 183 320 ls st h = am_go0 cl 183 321 ls (.inl 0 :: st) h := am_rK am_m183 d_183_320 (by decide) rfl _ _ _
theorem d_183_321 : am_code 183 321 = some (.ireturn, 1) := by decide +kernel
theorem s_183_321 (cl : am_C) (ls : am_Ls) (x : Int) (h : am_H) : am_go0 cl 183 321 ls [.inl x] h = if x = 0 ∨ x = 1 then some (some (.inl x), h) else none := am_rRz am_m183 d_183_321 x ls h
theorem d_183_322 : am_code 183 322 = some (.aload_n 1, 1) := by decide +kernel
theorem s_183_322 (cl : am_C) (a0 a2 a3 : Option am_V) (x : Nat) (st : List am_V) (h : am_H) : am_go0 cl 183 322 [a0, some (.inr (.inr (some x))), a2, a3] st h = am_go0 cl 183 323 [a0, some (.inr (.inr (some x))), a2, a3] (.inr (.inr (some x)) :: st) h := am_r am_m183 d_183_322 rfl
theorem d_183_323 : am_code 183 323 = some (.aload_n 0, 1) := by decide +kernel
theorem s_183_323 (cl : am_C) (a1 a2 a3 : Option am_V) (x : Nat) (st : List am_V) (h : am_H) : am_go0 cl 183 323 [some (.inr (.inr (some x))), a1, a2, a3] st h = am_go0 cl 183 324 [some (.inr (.inr (some x))), a1, a2, a3] (.inr (.inr (some x)) :: st) h := am_r am_m183 d_183_323 rfl
theorem d_183_324 : am_code 183 324 = some (.iload_n 3, 1) := by decide +kernel
theorem s_183_324 (cl : am_C) (a0 a1 a2 : Option am_V) (x : Int) (st : List am_V) (h : am_H) : am_go0 cl 183 324 [a0, a1, a2, some (.inl x)] st h = am_go0 cl 183 325 [a0, a1, a2, some (.inl x)] (.inl x :: st) h := am_r am_m183 d_183_324 rfl
theorem d_183_325 : am_code 183 325 = some (.iconst 1, 1) := by decide +kernel
theorem s_183_325 (cl : am_C) (ls : am_Ls) (st : List am_V) (h : am_H) : am_go0 cl 183 325 ls st h = am_go0 cl 183 326 ls (.inl 1 :: st) h := am_rK am_m183 d_183_325 (by decide) rfl _ _ _
theorem d_183_326 : am_code 183 326 = some (.iadd, 1) := by decide +kernel
theorem s_183_326 (cl : am_C) (ls : am_Ls) (x y : Int) (st : List am_V) (h : am_H) : am_go0 cl 183 326 ls (.inl y :: .inl x :: st) h = am_go0 cl 183 327 ls (.inl (am_wr (x + y)) :: st) h := am_r am_m183 d_183_326 rfl
theorem d_183_327 : am_code 183 327 = some (.iaload, 1) := by decide +kernel
theorem s_183_327 (cl : am_C) (ls : am_Ls) (i : Int) (st : List am_V) (N : Nat) (I : Nat → Int → Int) (L : Nat → Int → Int64) (h0 : 0 ≤ i) (h1 : i < (N : Int)) : am_go0 cl 183 327 ls (.inl i :: .inr (.inr (some 0)) :: st) (am_GS N, am_GR, I, L) = am_go0 cl 183 328 ls (.inl (I 0 i) :: st) (am_GS N, am_GR, I, L) := am_rAs am_m183 d_183_327 rfl rfl ls st i N I L h0 h1
theorem d_183_328 : am_code 183 328 = some (.aload_n 0, 1) := by decide +kernel
theorem s_183_328 (cl : am_C) (a1 a2 a3 : Option am_V) (x : Nat) (st : List am_V) (h : am_H) : am_go0 cl 183 328 [some (.inr (.inr (some x))), a1, a2, a3] st h = am_go0 cl 183 329 [some (.inr (.inr (some x))), a1, a2, a3] (.inr (.inr (some x)) :: st) h := am_r am_m183 d_183_328 rfl
theorem d_183_329 : am_code 183 329 = some (.iload_n 3, 1) := by decide +kernel
theorem s_183_329 (cl : am_C) (a0 a1 a2 : Option am_V) (x : Int) (st : List am_V) (h : am_H) : am_go0 cl 183 329 [a0, a1, a2, some (.inl x)] st h = am_go0 cl 183 330 [a0, a1, a2, some (.inl x)] (.inl x :: st) h := am_r am_m183 d_183_329 rfl
theorem d_183_330 : am_code 183 330 = some (.iconst 2, 1) := by decide +kernel
theorem s_183_330 (cl : am_C) (ls : am_Ls) (st : List am_V) (h : am_H) : am_go0 cl 183 330 ls st h = am_go0 cl 183 331 ls (.inl 2 :: st) h := am_rK am_m183 d_183_330 (by decide) rfl _ _ _
theorem d_183_331 : am_code 183 331 = some (.iadd, 1) := by decide +kernel
theorem s_183_331 (cl : am_C) (ls : am_Ls) (x y : Int) (st : List am_V) (h : am_H) : am_go0 cl 183 331 ls (.inl y :: .inl x :: st) h = am_go0 cl 183 332 ls (.inl (am_wr (x + y)) :: st) h := am_r am_m183 d_183_331 rfl
theorem d_183_332 : am_code 183 332 = some (.iaload, 1) := by decide +kernel
theorem s_183_332 (cl : am_C) (ls : am_Ls) (i : Int) (st : List am_V) (N : Nat) (I : Nat → Int → Int) (L : Nat → Int → Int64) (h0 : 0 ≤ i) (h1 : i < (N : Int)) : am_go0 cl 183 332 ls (.inl i :: .inr (.inr (some 0)) :: st) (am_GS N, am_GR, I, L) = am_go0 cl 183 333 ls (.inl (I 0 i) :: st) (am_GS N, am_GR, I, L) := am_rAs am_m183 d_183_332 rfl rfl ls st i N I L h0 h1
theorem d_183_333 : am_code 183 333 = some (.aload_n 0, 1) := by decide +kernel
theorem s_183_333 (cl : am_C) (a1 a2 a3 : Option am_V) (x : Nat) (st : List am_V) (h : am_H) : am_go0 cl 183 333 [some (.inr (.inr (some x))), a1, a2, a3] st h = am_go0 cl 183 334 [some (.inr (.inr (some x))), a1, a2, a3] (.inr (.inr (some x)) :: st) h := am_r am_m183 d_183_333 rfl
theorem d_183_334 : am_code 183 334 = some (.iload_n 3, 1) := by decide +kernel
theorem s_183_334 (cl : am_C) (a0 a1 a2 : Option am_V) (x : Int) (st : List am_V) (h : am_H) : am_go0 cl 183 334 [a0, a1, a2, some (.inl x)] st h = am_go0 cl 183 335 [a0, a1, a2, some (.inl x)] (.inl x :: st) h := am_r am_m183 d_183_334 rfl
theorem d_183_335 : am_code 183 335 = some (.iconst 3, 1) := by decide +kernel
theorem s_183_335 (cl : am_C) (ls : am_Ls) (st : List am_V) (h : am_H) : am_go0 cl 183 335 ls st h = am_go0 cl 183 336 ls (.inl 3 :: st) h := am_rK am_m183 d_183_335 (by decide) rfl _ _ _
theorem d_183_336 : am_code 183 336 = some (.iadd, 1) := by decide +kernel
theorem s_183_336 (cl : am_C) (ls : am_Ls) (x y : Int) (st : List am_V) (h : am_H) : am_go0 cl 183 336 ls (.inl y :: .inl x :: st) h = am_go0 cl 183 337 ls (.inl (am_wr (x + y)) :: st) h := am_r am_m183 d_183_336 rfl
theorem d_183_337 : am_code 183 337 = some (.iaload, 1) := by decide +kernel
theorem s_183_337 (cl : am_C) (ls : am_Ls) (i : Int) (st : List am_V) (N : Nat) (I : Nat → Int → Int) (L : Nat → Int → Int64) (h0 : 0 ≤ i) (h1 : i < (N : Int)) : am_go0 cl 183 337 ls (.inl i :: .inr (.inr (some 0)) :: st) (am_GS N, am_GR, I, L) = am_go0 cl 183 338 ls (.inl (I 0 i) :: st) (am_GS N, am_GR, I, L) := am_rAs am_m183 d_183_337 rfl rfl ls st i N I L h0 h1
theorem d_183_338 : am_code 183 338 = some (.aload_n 0, 1) := by decide +kernel
theorem s_183_338 (cl : am_C) (a1 a2 a3 : Option am_V) (x : Nat) (st : List am_V) (h : am_H) : am_go0 cl 183 338 [some (.inr (.inr (some x))), a1, a2, a3] st h = am_go0 cl 183 339 [some (.inr (.inr (some x))), a1, a2, a3] (.inr (.inr (some x)) :: st) h := am_r am_m183 d_183_338 rfl
theorem d_183_339 : am_code 183 339 = some (.iload_n 3, 1) := by decide +kernel
theorem s_183_339 (cl : am_C) (a0 a1 a2 : Option am_V) (x : Int) (st : List am_V) (h : am_H) : am_go0 cl 183 339 [a0, a1, a2, some (.inl x)] st h = am_go0 cl 183 340 [a0, a1, a2, some (.inl x)] (.inl x :: st) h := am_r am_m183 d_183_339 rfl
theorem d_183_340 : am_code 183 340 = some (.iconst 4, 1) := by decide +kernel
theorem s_183_340 (cl : am_C) (ls : am_Ls) (st : List am_V) (h : am_H) : am_go0 cl 183 340 ls st h = am_go0 cl 183 341 ls (.inl 4 :: st) h := am_rK am_m183 d_183_340 (by decide) rfl _ _ _
theorem d_183_341 : am_code 183 341 = some (.iadd, 1) := by decide +kernel
theorem s_183_341 (cl : am_C) (ls : am_Ls) (x y : Int) (st : List am_V) (h : am_H) : am_go0 cl 183 341 ls (.inl y :: .inl x :: st) h = am_go0 cl 183 342 ls (.inl (am_wr (x + y)) :: st) h := am_r am_m183 d_183_341 rfl
theorem d_183_342 : am_code 183 342 = some (.iaload, 1) := by decide +kernel
theorem s_183_342 (cl : am_C) (ls : am_Ls) (i : Int) (st : List am_V) (N : Nat) (I : Nat → Int → Int) (L : Nat → Int → Int64) (h0 : 0 ≤ i) (h1 : i < (N : Int)) : am_go0 cl 183 342 ls (.inl i :: .inr (.inr (some 0)) :: st) (am_GS N, am_GR, I, L) = am_go0 cl 183 343 ls (.inl (I 0 i) :: st) (am_GS N, am_GR, I, L) := am_rAs am_m183 d_183_342 rfl rfl ls st i N I L h0 h1
theorem d_183_343 : am_code 183 343 = some (.invokevirtual 40, 3) := by decide +kernel
theorem s_183_343 (cl : am_C) (ls : am_Ls) (x0 : Int) (x1 : Int) (x2 : Int) (x3 : Int) (N : Nat) (I : Nat → Int → Int) (L : Nat → Int → Int64) : am_go0 cl 183 343 ls [.inl x3, .inl x2, .inl x1, .inl x0, .inr (.inr (some 1))] (am_GS N, am_GR, I, L) = am_bd (cl 119 [.inr (.inr (some 1)), .inl x0, .inl x1, .inl x2, .inl x3] (am_GS N, am_GR, I, L)) (fun v h2 => am_go0 cl 183 346 ls (v.toList ++ []) h2) := am_rV am_m183 d_183_343 am_k10040 rfl am_m119 (gs_1 N) (by decide) (Nat.le_of_ble_eq_true rfl) rfl ls
theorem d_183_346 : am_code 183 346 = some (.aload_n 2, 1) := by decide +kernel
theorem s_183_346 (cl : am_C) (a0 a1 a3 : Option am_V) (x : Nat) (st : List am_V) (h : am_H) : am_go0 cl 183 346 [a0, a1, some (.inr (.inr (some x))), a3] st h = am_go0 cl 183 347 [a0, a1, some (.inr (.inr (some x))), a3] (.inr (.inr (some x)) :: st) h := am_r am_m183 d_183_346 rfl
theorem d_183_347 : am_code 183 347 = some (.aload_n 0, 1) := by decide +kernel
theorem s_183_347 (cl : am_C) (a1 a2 a3 : Option am_V) (x : Nat) (st : List am_V) (h : am_H) : am_go0 cl 183 347 [some (.inr (.inr (some x))), a1, a2, a3] st h = am_go0 cl 183 348 [some (.inr (.inr (some x))), a1, a2, a3] (.inr (.inr (some x)) :: st) h := am_r am_m183 d_183_347 rfl
theorem d_183_348 : am_code 183 348 = some (.iload_n 3, 1) := by decide +kernel
theorem s_183_348 (cl : am_C) (a0 a1 a2 : Option am_V) (x : Int) (st : List am_V) (h : am_H) : am_go0 cl 183 348 [a0, a1, a2, some (.inl x)] st h = am_go0 cl 183 349 [a0, a1, a2, some (.inl x)] (.inl x :: st) h := am_r am_m183 d_183_348 rfl
theorem d_183_349 : am_code 183 349 = some (.iconst 1, 1) := by decide +kernel
theorem s_183_349 (cl : am_C) (ls : am_Ls) (st : List am_V) (h : am_H) : am_go0 cl 183 349 ls st h = am_go0 cl 183 350 ls (.inl 1 :: st) h := am_rK am_m183 d_183_349 (by decide) rfl _ _ _
theorem d_183_350 : am_code 183 350 = some (.iadd, 1) := by decide +kernel
theorem s_183_350 (cl : am_C) (ls : am_Ls) (x y : Int) (st : List am_V) (h : am_H) : am_go0 cl 183 350 ls (.inl y :: .inl x :: st) h = am_go0 cl 183 351 ls (.inl (am_wr (x + y)) :: st) h := am_r am_m183 d_183_350 rfl
theorem d_183_351 : am_code 183 351 = some (.iaload, 1) := by decide +kernel
theorem s_183_351 (cl : am_C) (ls : am_Ls) (i : Int) (st : List am_V) (N : Nat) (I : Nat → Int → Int) (L : Nat → Int → Int64) (h0 : 0 ≤ i) (h1 : i < (N : Int)) : am_go0 cl 183 351 ls (.inl i :: .inr (.inr (some 0)) :: st) (am_GS N, am_GR, I, L) = am_go0 cl 183 352 ls (.inl (I 0 i) :: st) (am_GS N, am_GR, I, L) := am_rAs am_m183 d_183_351 rfl rfl ls st i N I L h0 h1
theorem d_183_352 : am_code 183 352 = some (.aload_n 0, 1) := by decide +kernel
theorem s_183_352 (cl : am_C) (a1 a2 a3 : Option am_V) (x : Nat) (st : List am_V) (h : am_H) : am_go0 cl 183 352 [some (.inr (.inr (some x))), a1, a2, a3] st h = am_go0 cl 183 353 [some (.inr (.inr (some x))), a1, a2, a3] (.inr (.inr (some x)) :: st) h := am_r am_m183 d_183_352 rfl
theorem d_183_353 : am_code 183 353 = some (.iload_n 3, 1) := by decide +kernel
theorem s_183_353 (cl : am_C) (a0 a1 a2 : Option am_V) (x : Int) (st : List am_V) (h : am_H) : am_go0 cl 183 353 [a0, a1, a2, some (.inl x)] st h = am_go0 cl 183 354 [a0, a1, a2, some (.inl x)] (.inl x :: st) h := am_r am_m183 d_183_353 rfl
theorem d_183_354 : am_code 183 354 = some (.iconst 2, 1) := by decide +kernel
theorem s_183_354 (cl : am_C) (ls : am_Ls) (st : List am_V) (h : am_H) : am_go0 cl 183 354 ls st h = am_go0 cl 183 355 ls (.inl 2 :: st) h := am_rK am_m183 d_183_354 (by decide) rfl _ _ _
theorem d_183_355 : am_code 183 355 = some (.iadd, 1) := by decide +kernel
theorem s_183_355 (cl : am_C) (ls : am_Ls) (x y : Int) (st : List am_V) (h : am_H) : am_go0 cl 183 355 ls (.inl y :: .inl x :: st) h = am_go0 cl 183 356 ls (.inl (am_wr (x + y)) :: st) h := am_r am_m183 d_183_355 rfl
theorem d_183_356 : am_code 183 356 = some (.iaload, 1) := by decide +kernel
theorem s_183_356 (cl : am_C) (ls : am_Ls) (i : Int) (st : List am_V) (N : Nat) (I : Nat → Int → Int) (L : Nat → Int → Int64) (h0 : 0 ≤ i) (h1 : i < (N : Int)) : am_go0 cl 183 356 ls (.inl i :: .inr (.inr (some 0)) :: st) (am_GS N, am_GR, I, L) = am_go0 cl 183 357 ls (.inl (I 0 i) :: st) (am_GS N, am_GR, I, L) := am_rAs am_m183 d_183_356 rfl rfl ls st i N I L h0 h1
theorem d_183_357 : am_code 183 357 = some (.aload_n 0, 1) := by decide +kernel
theorem s_183_357 (cl : am_C) (a1 a2 a3 : Option am_V) (x : Nat) (st : List am_V) (h : am_H) : am_go0 cl 183 357 [some (.inr (.inr (some x))), a1, a2, a3] st h = am_go0 cl 183 358 [some (.inr (.inr (some x))), a1, a2, a3] (.inr (.inr (some x)) :: st) h := am_r am_m183 d_183_357 rfl
theorem d_183_358 : am_code 183 358 = some (.iload_n 3, 1) := by decide +kernel
theorem s_183_358 (cl : am_C) (a0 a1 a2 : Option am_V) (x : Int) (st : List am_V) (h : am_H) : am_go0 cl 183 358 [a0, a1, a2, some (.inl x)] st h = am_go0 cl 183 359 [a0, a1, a2, some (.inl x)] (.inl x :: st) h := am_r am_m183 d_183_358 rfl
theorem d_183_359 : am_code 183 359 = some (.iconst 3, 1) := by decide +kernel
theorem s_183_359 (cl : am_C) (ls : am_Ls) (st : List am_V) (h : am_H) : am_go0 cl 183 359 ls st h = am_go0 cl 183 360 ls (.inl 3 :: st) h := am_rK am_m183 d_183_359 (by decide) rfl _ _ _
theorem d_183_360 : am_code 183 360 = some (.iadd, 1) := by decide +kernel
theorem s_183_360 (cl : am_C) (ls : am_Ls) (x y : Int) (st : List am_V) (h : am_H) : am_go0 cl 183 360 ls (.inl y :: .inl x :: st) h = am_go0 cl 183 361 ls (.inl (am_wr (x + y)) :: st) h := am_r am_m183 d_183_360 rfl
theorem d_183_361 : am_code 183 361 = some (.iaload, 1) := by decide +kernel
theorem s_183_361 (cl : am_C) (ls : am_Ls) (i : Int) (st : List am_V) (N : Nat) (I : Nat → Int → Int) (L : Nat → Int → Int64) (h0 : 0 ≤ i) (h1 : i < (N : Int)) : am_go0 cl 183 361 ls (.inl i :: .inr (.inr (some 0)) :: st) (am_GS N, am_GR, I, L) = am_go0 cl 183 362 ls (.inl (I 0 i) :: st) (am_GS N, am_GR, I, L) := am_rAs am_m183 d_183_361 rfl rfl ls st i N I L h0 h1
theorem d_183_362 : am_code 183 362 = some (.aload_n 0, 1) := by decide +kernel
theorem s_183_362 (cl : am_C) (a1 a2 a3 : Option am_V) (x : Nat) (st : List am_V) (h : am_H) : am_go0 cl 183 362 [some (.inr (.inr (some x))), a1, a2, a3] st h = am_go0 cl 183 363 [some (.inr (.inr (some x))), a1, a2, a3] (.inr (.inr (some x)) :: st) h := am_r am_m183 d_183_362 rfl
theorem d_183_363 : am_code 183 363 = some (.iload_n 3, 1) := by decide +kernel
theorem s_183_363 (cl : am_C) (a0 a1 a2 : Option am_V) (x : Int) (st : List am_V) (h : am_H) : am_go0 cl 183 363 [a0, a1, a2, some (.inl x)] st h = am_go0 cl 183 364 [a0, a1, a2, some (.inl x)] (.inl x :: st) h := am_r am_m183 d_183_363 rfl
theorem d_183_364 : am_code 183 364 = some (.iconst 4, 1) := by decide +kernel
theorem s_183_364 (cl : am_C) (ls : am_Ls) (st : List am_V) (h : am_H) : am_go0 cl 183 364 ls st h = am_go0 cl 183 365 ls (.inl 4 :: st) h := am_rK am_m183 d_183_364 (by decide) rfl _ _ _
theorem d_183_365 : am_code 183 365 = some (.iadd, 1) := by decide +kernel
theorem s_183_365 (cl : am_C) (ls : am_Ls) (x y : Int) (st : List am_V) (h : am_H) : am_go0 cl 183 365 ls (.inl y :: .inl x :: st) h = am_go0 cl 183 366 ls (.inl (am_wr (x + y)) :: st) h := am_r am_m183 d_183_365 rfl
theorem d_183_366 : am_code 183 366 = some (.iaload, 1) := by decide +kernel
theorem s_183_366 (cl : am_C) (ls : am_Ls) (i : Int) (st : List am_V) (N : Nat) (I : Nat → Int → Int) (L : Nat → Int → Int64) (h0 : 0 ≤ i) (h1 : i < (N : Int)) : am_go0 cl 183 366 ls (.inl i :: .inr (.inr (some 0)) :: st) (am_GS N, am_GR, I, L) = am_go0 cl 183 367 ls (.inl (I 0 i) :: st) (am_GS N, am_GR, I, L) := am_rAs am_m183 d_183_366 rfl rfl ls st i N I L h0 h1
theorem d_183_367 : am_code 183 367 = some (.invokevirtual 44, 3) := by decide +kernel
theorem s_183_367 (cl : am_C) (ls : am_Ls) (x0 : Int) (x1 : Int) (x2 : Int) (x3 : Int) (z0 : Int) (N : Nat) (I : Nat → Int → Int) (L : Nat → Int → Int64) : am_go0 cl 183 367 ls [.inl x3, .inl x2, .inl x1, .inl x0, .inr (.inr (some 53)), .inl z0] (am_GS N, am_GR, I, L) = am_bd (cl 148 [.inr (.inr (some 53)), .inl x0, .inl x1, .inl x2, .inl x3] (am_GS N, am_GR, I, L)) (fun v h2 => am_go0 cl 183 370 ls (v.toList ++ [.inl z0]) h2) := am_rV am_m183 d_183_367 am_k10044 rfl am_m148 (gs_53 N) (by decide) (Nat.le_of_ble_eq_true rfl) rfl ls
theorem d_183_370 : am_code 183 370 = some (.if_icmp .eq 392, 3) := by decide +kernel
theorem s_183_370 (cl : am_C) (ls : am_Ls) (x y : Int) (st : List am_V) (h : am_H) : am_go0 cl 183 370 ls (.inl y :: .inl x :: st) h = if x = y then am_go0 cl 183 762 ls st h else am_go0 cl 183 373 ls st h := (am_rJ0 am_m183 d_183_370 (by decide) rfl x y ls st h).trans (am_ifT (am_cmp_eq x y) _ _)
theorem d_183_373 : am_code 183 373 = some (.iconst 0, 1) := by decide +kernel
theorem s_183_373 (cl : am_C) (ls : am_Ls) (st : List am_V) (h : am_H) : am_go0 cl 183 373 ls st h = am_go0 cl 183 374 ls (.inl 0 :: st) h := am_rK am_m183 d_183_373 (by decide) rfl _ _ _
theorem d_183_374 : am_code 183 374 = some (.ireturn, 1) := by decide +kernel
theorem s_183_374 (cl : am_C) (ls : am_Ls) (x : Int) (h : am_H) : am_go0 cl 183 374 ls [.inl x] h = if x = 0 ∨ x = 1 then some (some (.inl x), h) else none := am_rRz am_m183 d_183_374 x ls h
theorem d_183_375 : am_code 183 375 = some (.aload_n 1, 1) := by decide +kernel
theorem s_183_375 (cl : am_C) (a0 a2 a3 : Option am_V) (x : Nat) (st : List am_V) (h : am_H) : am_go0 cl 183 375 [a0, some (.inr (.inr (some x))), a2, a3] st h = am_go0 cl 183 376 [a0, some (.inr (.inr (some x))), a2, a3] (.inr (.inr (some x)) :: st) h := am_r am_m183 d_183_375 rfl
theorem d_183_376 : am_code 183 376 = some (.aload_n 0, 1) := by decide +kernel
theorem s_183_376 (cl : am_C) (a1 a2 a3 : Option am_V) (x : Nat) (st : List am_V) (h : am_H) : am_go0 cl 183 376 [some (.inr (.inr (some x))), a1, a2, a3] st h = am_go0 cl 183 377 [some (.inr (.inr (some x))), a1, a2, a3] (.inr (.inr (some x)) :: st) h := am_r am_m183 d_183_376 rfl
theorem d_183_377 : am_code 183 377 = some (.iload_n 3, 1) := by decide +kernel
theorem s_183_377 (cl : am_C) (a0 a1 a2 : Option am_V) (x : Int) (st : List am_V) (h : am_H) : am_go0 cl 183 377 [a0, a1, a2, some (.inl x)] st h = am_go0 cl 183 378 [a0, a1, a2, some (.inl x)] (.inl x :: st) h := am_r am_m183 d_183_377 rfl
theorem d_183_378 : am_code 183 378 = some (.iconst 1, 1) := by decide +kernel
theorem s_183_378 (cl : am_C) (ls : am_Ls) (st : List am_V) (h : am_H) : am_go0 cl 183 378 ls st h = am_go0 cl 183 379 ls (.inl 1 :: st) h := am_rK am_m183 d_183_378 (by decide) rfl _ _ _
theorem d_183_379 : am_code 183 379 = some (.iadd, 1) := by decide +kernel
theorem s_183_379 (cl : am_C) (ls : am_Ls) (x y : Int) (st : List am_V) (h : am_H) : am_go0 cl 183 379 ls (.inl y :: .inl x :: st) h = am_go0 cl 183 380 ls (.inl (am_wr (x + y)) :: st) h := am_r am_m183 d_183_379 rfl
theorem d_183_380 : am_code 183 380 = some (.iaload, 1) := by decide +kernel
theorem s_183_380 (cl : am_C) (ls : am_Ls) (i : Int) (st : List am_V) (N : Nat) (I : Nat → Int → Int) (L : Nat → Int → Int64) (h0 : 0 ≤ i) (h1 : i < (N : Int)) : am_go0 cl 183 380 ls (.inl i :: .inr (.inr (some 0)) :: st) (am_GS N, am_GR, I, L) = am_go0 cl 183 381 ls (.inl (I 0 i) :: st) (am_GS N, am_GR, I, L) := am_rAs am_m183 d_183_380 rfl rfl ls st i N I L h0 h1
theorem d_183_381 : am_code 183 381 = some (.aload_n 0, 1) := by decide +kernel
theorem s_183_381 (cl : am_C) (a1 a2 a3 : Option am_V) (x : Nat) (st : List am_V) (h : am_H) : am_go0 cl 183 381 [some (.inr (.inr (some x))), a1, a2, a3] st h = am_go0 cl 183 382 [some (.inr (.inr (some x))), a1, a2, a3] (.inr (.inr (some x)) :: st) h := am_r am_m183 d_183_381 rfl
theorem d_183_382 : am_code 183 382 = some (.iload_n 3, 1) := by decide +kernel
theorem s_183_382 (cl : am_C) (a0 a1 a2 : Option am_V) (x : Int) (st : List am_V) (h : am_H) : am_go0 cl 183 382 [a0, a1, a2, some (.inl x)] st h = am_go0 cl 183 383 [a0, a1, a2, some (.inl x)] (.inl x :: st) h := am_r am_m183 d_183_382 rfl
theorem d_183_383 : am_code 183 383 = some (.iconst 2, 1) := by decide +kernel
theorem s_183_383 (cl : am_C) (ls : am_Ls) (st : List am_V) (h : am_H) : am_go0 cl 183 383 ls st h = am_go0 cl 183 384 ls (.inl 2 :: st) h := am_rK am_m183 d_183_383 (by decide) rfl _ _ _
theorem d_183_384 : am_code 183 384 = some (.iadd, 1) := by decide +kernel
theorem s_183_384 (cl : am_C) (ls : am_Ls) (x y : Int) (st : List am_V) (h : am_H) : am_go0 cl 183 384 ls (.inl y :: .inl x :: st) h = am_go0 cl 183 385 ls (.inl (am_wr (x + y)) :: st) h := am_r am_m183 d_183_384 rfl
theorem d_183_385 : am_code 183 385 = some (.iaload, 1) := by decide +kernel
theorem s_183_385 (cl : am_C) (ls : am_Ls) (i : Int) (st : List am_V) (N : Nat) (I : Nat → Int → Int) (L : Nat → Int → Int64) (h0 : 0 ≤ i) (h1 : i < (N : Int)) : am_go0 cl 183 385 ls (.inl i :: .inr (.inr (some 0)) :: st) (am_GS N, am_GR, I, L) = am_go0 cl 183 386 ls (.inl (I 0 i) :: st) (am_GS N, am_GR, I, L) := am_rAs am_m183 d_183_385 rfl rfl ls st i N I L h0 h1
theorem d_183_386 : am_code 183 386 = some (.aload_n 0, 1) := by decide +kernel
theorem s_183_386 (cl : am_C) (a1 a2 a3 : Option am_V) (x : Nat) (st : List am_V) (h : am_H) : am_go0 cl 183 386 [some (.inr (.inr (some x))), a1, a2, a3] st h = am_go0 cl 183 387 [some (.inr (.inr (some x))), a1, a2, a3] (.inr (.inr (some x)) :: st) h := am_r am_m183 d_183_386 rfl
theorem d_183_387 : am_code 183 387 = some (.iload_n 3, 1) := by decide +kernel
theorem s_183_387 (cl : am_C) (a0 a1 a2 : Option am_V) (x : Int) (st : List am_V) (h : am_H) : am_go0 cl 183 387 [a0, a1, a2, some (.inl x)] st h = am_go0 cl 183 388 [a0, a1, a2, some (.inl x)] (.inl x :: st) h := am_r am_m183 d_183_387 rfl
theorem d_183_388 : am_code 183 388 = some (.iconst 3, 1) := by decide +kernel
theorem s_183_388 (cl : am_C) (ls : am_Ls) (st : List am_V) (h : am_H) : am_go0 cl 183 388 ls st h = am_go0 cl 183 389 ls (.inl 3 :: st) h := am_rK am_m183 d_183_388 (by decide) rfl _ _ _
theorem d_183_389 : am_code 183 389 = some (.iadd, 1) := by decide +kernel
theorem s_183_389 (cl : am_C) (ls : am_Ls) (x y : Int) (st : List am_V) (h : am_H) : am_go0 cl 183 389 ls (.inl y :: .inl x :: st) h = am_go0 cl 183 390 ls (.inl (am_wr (x + y)) :: st) h := am_r am_m183 d_183_389 rfl
theorem d_183_390 : am_code 183 390 = some (.iaload, 1) := by decide +kernel
theorem s_183_390 (cl : am_C) (ls : am_Ls) (i : Int) (st : List am_V) (N : Nat) (I : Nat → Int → Int) (L : Nat → Int → Int64) (h0 : 0 ≤ i) (h1 : i < (N : Int)) : am_go0 cl 183 390 ls (.inl i :: .inr (.inr (some 0)) :: st) (am_GS N, am_GR, I, L) = am_go0 cl 183 391 ls (.inl (I 0 i) :: st) (am_GS N, am_GR, I, L) := am_rAs am_m183 d_183_390 rfl rfl ls st i N I L h0 h1
theorem d_183_391 : am_code 183 391 = some (.invokevirtual 45, 3) := by decide +kernel
theorem s_183_391 (cl : am_C) (ls : am_Ls) (x0 : Int) (x1 : Int) (x2 : Int) (N : Nat) (I : Nat → Int → Int) (L : Nat → Int → Int64) : am_go0 cl 183 391 ls [.inl x2, .inl x1, .inl x0, .inr (.inr (some 1))] (am_GS N, am_GR, I, L) = am_bd (cl 120 [.inr (.inr (some 1)), .inl x0, .inl x1, .inl x2] (am_GS N, am_GR, I, L)) (fun v h2 => am_go0 cl 183 394 ls (v.toList ++ []) h2) := am_rV am_m183 d_183_391 am_k10045 rfl am_m120 (gs_1 N) (by decide) (Nat.le_of_ble_eq_true rfl) rfl ls
theorem d_183_394 : am_code 183 394 = some (.aload_n 2, 1) := by decide +kernel
theorem s_183_394 (cl : am_C) (a0 a1 a3 : Option am_V) (x : Nat) (st : List am_V) (h : am_H) : am_go0 cl 183 394 [a0, a1, some (.inr (.inr (some x))), a3] st h = am_go0 cl 183 395 [a0, a1, some (.inr (.inr (some x))), a3] (.inr (.inr (some x)) :: st) h := am_r am_m183 d_183_394 rfl
theorem d_183_395 : am_code 183 395 = some (.aload_n 0, 1) := by decide +kernel
theorem s_183_395 (cl : am_C) (a1 a2 a3 : Option am_V) (x : Nat) (st : List am_V) (h : am_H) : am_go0 cl 183 395 [some (.inr (.inr (some x))), a1, a2, a3] st h = am_go0 cl 183 396 [some (.inr (.inr (some x))), a1, a2, a3] (.inr (.inr (some x)) :: st) h := am_r am_m183 d_183_395 rfl
theorem d_183_396 : am_code 183 396 = some (.iload_n 3, 1) := by decide +kernel
theorem s_183_396 (cl : am_C) (a0 a1 a2 : Option am_V) (x : Int) (st : List am_V) (h : am_H) : am_go0 cl 183 396 [a0, a1, a2, some (.inl x)] st h = am_go0 cl 183 397 [a0, a1, a2, some (.inl x)] (.inl x :: st) h := am_r am_m183 d_183_396 rfl
theorem d_183_397 : am_code 183 397 = some (.iconst 1, 1) := by decide +kernel
theorem s_183_397 (cl : am_C) (ls : am_Ls) (st : List am_V) (h : am_H) : am_go0 cl 183 397 ls st h = am_go0 cl 183 398 ls (.inl 1 :: st) h := am_rK am_m183 d_183_397 (by decide) rfl _ _ _
theorem d_183_398 : am_code 183 398 = some (.iadd, 1) := by decide +kernel
theorem s_183_398 (cl : am_C) (ls : am_Ls) (x y : Int) (st : List am_V) (h : am_H) : am_go0 cl 183 398 ls (.inl y :: .inl x :: st) h = am_go0 cl 183 399 ls (.inl (am_wr (x + y)) :: st) h := am_r am_m183 d_183_398 rfl
theorem d_183_399 : am_code 183 399 = some (.iaload, 1) := by decide +kernel
theorem s_183_399 (cl : am_C) (ls : am_Ls) (i : Int) (st : List am_V) (N : Nat) (I : Nat → Int → Int) (L : Nat → Int → Int64) (h0 : 0 ≤ i) (h1 : i < (N : Int)) : am_go0 cl 183 399 ls (.inl i :: .inr (.inr (some 0)) :: st) (am_GS N, am_GR, I, L) = am_go0 cl 183 400 ls (.inl (I 0 i) :: st) (am_GS N, am_GR, I, L) := am_rAs am_m183 d_183_399 rfl rfl ls st i N I L h0 h1
theorem d_183_400 : am_code 183 400 = some (.aload_n 0, 1) := by decide +kernel
theorem s_183_400 (cl : am_C) (a1 a2 a3 : Option am_V) (x : Nat) (st : List am_V) (h : am_H) : am_go0 cl 183 400 [some (.inr (.inr (some x))), a1, a2, a3] st h = am_go0 cl 183 401 [some (.inr (.inr (some x))), a1, a2, a3] (.inr (.inr (some x)) :: st) h := am_r am_m183 d_183_400 rfl
theorem d_183_401 : am_code 183 401 = some (.iload_n 3, 1) := by decide +kernel
theorem s_183_401 (cl : am_C) (a0 a1 a2 : Option am_V) (x : Int) (st : List am_V) (h : am_H) : am_go0 cl 183 401 [a0, a1, a2, some (.inl x)] st h = am_go0 cl 183 402 [a0, a1, a2, some (.inl x)] (.inl x :: st) h := am_r am_m183 d_183_401 rfl
theorem d_183_402 : am_code 183 402 = some (.iconst 2, 1) := by decide +kernel
theorem s_183_402 (cl : am_C) (ls : am_Ls) (st : List am_V) (h : am_H) : am_go0 cl 183 402 ls st h = am_go0 cl 183 403 ls (.inl 2 :: st) h := am_rK am_m183 d_183_402 (by decide) rfl _ _ _
theorem d_183_403 : am_code 183 403 = some (.iadd, 1) := by decide +kernel
theorem s_183_403 (cl : am_C) (ls : am_Ls) (x y : Int) (st : List am_V) (h : am_H) : am_go0 cl 183 403 ls (.inl y :: .inl x :: st) h = am_go0 cl 183 404 ls (.inl (am_wr (x + y)) :: st) h := am_r am_m183 d_183_403 rfl
theorem d_183_404 : am_code 183 404 = some (.iaload, 1) := by decide +kernel
theorem s_183_404 (cl : am_C) (ls : am_Ls) (i : Int) (st : List am_V) (N : Nat) (I : Nat → Int → Int) (L : Nat → Int → Int64) (h0 : 0 ≤ i) (h1 : i < (N : Int)) : am_go0 cl 183 404 ls (.inl i :: .inr (.inr (some 0)) :: st) (am_GS N, am_GR, I, L) = am_go0 cl 183 405 ls (.inl (I 0 i) :: st) (am_GS N, am_GR, I, L) := am_rAs am_m183 d_183_404 rfl rfl ls st i N I L h0 h1
theorem d_183_405 : am_code 183 405 = some (.aload_n 0, 1) := by decide +kernel
theorem s_183_405 (cl : am_C) (a1 a2 a3 : Option am_V) (x : Nat) (st : List am_V) (h : am_H) : am_go0 cl 183 405 [some (.inr (.inr (some x))), a1, a2, a3] st h = am_go0 cl 183 406 [some (.inr (.inr (some x))), a1, a2, a3] (.inr (.inr (some x)) :: st) h := am_r am_m183 d_183_405 rfl
theorem d_183_406 : am_code 183 406 = some (.iload_n 3, 1) := by decide +kernel
theorem s_183_406 (cl : am_C) (a0 a1 a2 : Option am_V) (x : Int) (st : List am_V) (h : am_H) : am_go0 cl 183 406 [a0, a1, a2, some (.inl x)] st h = am_go0 cl 183 407 [a0, a1, a2, some (.inl x)] (.inl x :: st) h := am_r am_m183 d_183_406 rfl
theorem d_183_407 : am_code 183 407 = some (.iconst 3, 1) := by decide +kernel
theorem s_183_407 (cl : am_C) (ls : am_Ls) (st : List am_V) (h : am_H) : am_go0 cl 183 407 ls st h = am_go0 cl 183 408 ls (.inl 3 :: st) h := am_rK am_m183 d_183_407 (by decide) rfl _ _ _
theorem d_183_408 : am_code 183 408 = some (.iadd, 1) := by decide +kernel
theorem s_183_408 (cl : am_C) (ls : am_Ls) (x y : Int) (st : List am_V) (h : am_H) : am_go0 cl 183 408 ls (.inl y :: .inl x :: st) h = am_go0 cl 183 409 ls (.inl (am_wr (x + y)) :: st) h := am_r am_m183 d_183_408 rfl
theorem d_183_409 : am_code 183 409 = some (.iaload, 1) := by decide +kernel
theorem s_183_409 (cl : am_C) (ls : am_Ls) (i : Int) (st : List am_V) (N : Nat) (I : Nat → Int → Int) (L : Nat → Int → Int64) (h0 : 0 ≤ i) (h1 : i < (N : Int)) : am_go0 cl 183 409 ls (.inl i :: .inr (.inr (some 0)) :: st) (am_GS N, am_GR, I, L) = am_go0 cl 183 410 ls (.inl (I 0 i) :: st) (am_GS N, am_GR, I, L) := am_rAs am_m183 d_183_409 rfl rfl ls st i N I L h0 h1
theorem d_183_410 : am_code 183 410 = some (.invokevirtual 48, 3) := by decide +kernel
theorem s_183_410 (cl : am_C) (ls : am_Ls) (x0 : Int) (x1 : Int) (x2 : Int) (z0 : Int) (N : Nat) (I : Nat → Int → Int) (L : Nat → Int → Int64) : am_go0 cl 183 410 ls [.inl x2, .inl x1, .inl x0, .inr (.inr (some 53)), .inl z0] (am_GS N, am_GR, I, L) = am_bd (cl 152 [.inr (.inr (some 53)), .inl x0, .inl x1, .inl x2] (am_GS N, am_GR, I, L)) (fun v h2 => am_go0 cl 183 413 ls (v.toList ++ [.inl z0]) h2) := am_rV am_m183 d_183_410 am_k10048 rfl am_m152 (gs_53 N) (by decide) (Nat.le_of_ble_eq_true rfl) rfl ls
theorem d_183_413 : am_code 183 413 = some (.if_icmp .eq 349, 3) := by decide +kernel
theorem s_183_413 (cl : am_C) (ls : am_Ls) (x y : Int) (st : List am_V) (h : am_H) : am_go0 cl 183 413 ls (.inl y :: .inl x :: st) h = if x = y then am_go0 cl 183 762 ls st h else am_go0 cl 183 416 ls st h := (am_rJ0 am_m183 d_183_413 (by decide) rfl x y ls st h).trans (am_ifT (am_cmp_eq x y) _ _)
theorem d_183_416 : am_code 183 416 = some (.iconst 0, 1) := by decide +kernel
theorem s_183_416 (cl : am_C) (ls : am_Ls) (st : List am_V) (h : am_H) : am_go0 cl 183 416 ls st h = am_go0 cl 183 417 ls (.inl 0 :: st) h := am_rK am_m183 d_183_416 (by decide) rfl _ _ _
theorem d_183_417 : am_code 183 417 = some (.ireturn, 1) := by decide +kernel
theorem s_183_417 (cl : am_C) (ls : am_Ls) (x : Int) (h : am_H) : am_go0 cl 183 417 ls [.inl x] h = if x = 0 ∨ x = 1 then some (some (.inl x), h) else none := am_rRz am_m183 d_183_417 x ls h
theorem d_183_418 : am_code 183 418 = some (.aload_n 1, 1) := by decide +kernel
theorem s_183_418 (cl : am_C) (a0 a2 a3 : Option am_V) (x : Nat) (st : List am_V) (h : am_H) : am_go0 cl 183 418 [a0, some (.inr (.inr (some x))), a2, a3] st h = am_go0 cl 183 419 [a0, some (.inr (.inr (some x))), a2, a3] (.inr (.inr (some x)) :: st) h := am_r am_m183 d_183_418 rfl
theorem d_183_419 : am_code 183 419 = some (.aload_n 0, 1) := by decide +kernel
theorem s_183_419 (cl : am_C) (a1 a2 a3 : Option am_V) (x : Nat) (st : List am_V) (h : am_H) : am_go0 cl 183 419 [some (.inr (.inr (some x))), a1, a2, a3] st h = am_go0 cl 183 420 [some (.inr (.inr (some x))), a1, a2, a3] (.inr (.inr (some x)) :: st) h := am_r am_m183 d_183_419 rfl
theorem d_183_420 : am_code 183 420 = some (.iload_n 3, 1) := by decide +kernel
theorem s_183_420 (cl : am_C) (a0 a1 a2 : Option am_V) (x : Int) (st : List am_V) (h : am_H) : am_go0 cl 183 420 [a0, a1, a2, some (.inl x)] st h = am_go0 cl 183 421 [a0, a1, a2, some (.inl x)] (.inl x :: st) h := am_r am_m183 d_183_420 rfl
theorem d_183_421 : am_code 183 421 = some (.iconst 1, 1) := by decide +kernel
theorem s_183_421 (cl : am_C) (ls : am_Ls) (st : List am_V) (h : am_H) : am_go0 cl 183 421 ls st h = am_go0 cl 183 422 ls (.inl 1 :: st) h := am_rK am_m183 d_183_421 (by decide) rfl _ _ _
theorem d_183_422 : am_code 183 422 = some (.iadd, 1) := by decide +kernel
theorem s_183_422 (cl : am_C) (ls : am_Ls) (x y : Int) (st : List am_V) (h : am_H) : am_go0 cl 183 422 ls (.inl y :: .inl x :: st) h = am_go0 cl 183 423 ls (.inl (am_wr (x + y)) :: st) h := am_r am_m183 d_183_422 rfl
theorem d_183_423 : am_code 183 423 = some (.iaload, 1) := by decide +kernel
theorem s_183_423 (cl : am_C) (ls : am_Ls) (i : Int) (st : List am_V) (N : Nat) (I : Nat → Int → Int) (L : Nat → Int → Int64) (h0 : 0 ≤ i) (h1 : i < (N : Int)) : am_go0 cl 183 423 ls (.inl i :: .inr (.inr (some 0)) :: st) (am_GS N, am_GR, I, L) = am_go0 cl 183 424 ls (.inl (I 0 i) :: st) (am_GS N, am_GR, I, L) := am_rAs am_m183 d_183_423 rfl rfl ls st i N I L h0 h1
theorem d_183_424 : am_code 183 424 = some (.aload_n 0, 1) := by decide +kernel
theorem s_183_424 (cl : am_C) (a1 a2 a3 : Option am_V) (x : Nat) (st : List am_V) (h : am_H) : am_go0 cl 183 424 [some (.inr (.inr (some x))), a1, a2, a3] st h = am_go0 cl 183 425 [some (.inr (.inr (some x))), a1, a2, a3] (.inr (.inr (some x)) :: st) h := am_r am_m183 d_183_424 rfl
theorem d_183_425 : am_code 183 425 = some (.iload_n 3, 1) := by decide +kernel
theorem s_183_425 (cl : am_C) (a0 a1 a2 : Option am_V) (x : Int) (st : List am_V) (h : am_H) : am_go0 cl 183 425 [a0, a1, a2, some (.inl x)] st h = am_go0 cl 183 426 [a0, a1, a2, some (.inl x)] (.inl x :: st) h := am_r am_m183 d_183_425 rfl
theorem d_183_426 : am_code 183 426 = some (.iconst 2, 1) := by decide +kernel
theorem s_183_426 (cl : am_C) (ls : am_Ls) (st : List am_V) (h : am_H) : am_go0 cl 183 426 ls st h = am_go0 cl 183 427 ls (.inl 2 :: st) h := am_rK am_m183 d_183_426 (by decide) rfl _ _ _
theorem d_183_427 : am_code 183 427 = some (.iadd, 1) := by decide +kernel
theorem s_183_427 (cl : am_C) (ls : am_Ls) (x y : Int) (st : List am_V) (h : am_H) : am_go0 cl 183 427 ls (.inl y :: .inl x :: st) h = am_go0 cl 183 428 ls (.inl (am_wr (x + y)) :: st) h := am_r am_m183 d_183_427 rfl
theorem d_183_428 : am_code 183 428 = some (.iaload, 1) := by decide +kernel
theorem s_183_428 (cl : am_C) (ls : am_Ls) (i : Int) (st : List am_V) (N : Nat) (I : Nat → Int → Int) (L : Nat → Int → Int64) (h0 : 0 ≤ i) (h1 : i < (N : Int)) : am_go0 cl 183 428 ls (.inl i :: .inr (.inr (some 0)) :: st) (am_GS N, am_GR, I, L) = am_go0 cl 183 429 ls (.inl (I 0 i) :: st) (am_GS N, am_GR, I, L) := am_rAs am_m183 d_183_428 rfl rfl ls st i N I L h0 h1
theorem d_183_429 : am_code 183 429 = some (.aload_n 0, 1) := by decide +kernel
theorem s_183_429 (cl : am_C) (a1 a2 a3 : Option am_V) (x : Nat) (st : List am_V) (h : am_H) : am_go0 cl 183 429 [some (.inr (.inr (some x))), a1, a2, a3] st h = am_go0 cl 183 430 [some (.inr (.inr (some x))), a1, a2, a3] (.inr (.inr (some x)) :: st) h := am_r am_m183 d_183_429 rfl
theorem d_183_430 : am_code 183 430 = some (.iload_n 3, 1) := by decide +kernel
theorem s_183_430 (cl : am_C) (a0 a1 a2 : Option am_V) (x : Int) (st : List am_V) (h : am_H) : am_go0 cl 183 430 [a0, a1, a2, some (.inl x)] st h = am_go0 cl 183 431 [a0, a1, a2, some (.inl x)] (.inl x :: st) h := am_r am_m183 d_183_430 rfl
theorem d_183_431 : am_code 183 431 = some (.iconst 3, 1) := by decide +kernel
theorem s_183_431 (cl : am_C) (ls : am_Ls) (st : List am_V) (h : am_H) : am_go0 cl 183 431 ls st h = am_go0 cl 183 432 ls (.inl 3 :: st) h := am_rK am_m183 d_183_431 (by decide) rfl _ _ _
theorem d_183_432 : am_code 183 432 = some (.iadd, 1) := by decide +kernel
theorem s_183_432 (cl : am_C) (ls : am_Ls) (x y : Int) (st : List am_V) (h : am_H) : am_go0 cl 183 432 ls (.inl y :: .inl x :: st) h = am_go0 cl 183 433 ls (.inl (am_wr (x + y)) :: st) h := am_r am_m183 d_183_432 rfl
theorem d_183_433 : am_code 183 433 = some (.iaload, 1) := by decide +kernel
theorem s_183_433 (cl : am_C) (ls : am_Ls) (i : Int) (st : List am_V) (N : Nat) (I : Nat → Int → Int) (L : Nat → Int → Int64) (h0 : 0 ≤ i) (h1 : i < (N : Int)) : am_go0 cl 183 433 ls (.inl i :: .inr (.inr (some 0)) :: st) (am_GS N, am_GR, I, L) = am_go0 cl 183 434 ls (.inl (I 0 i) :: st) (am_GS N, am_GR, I, L) := am_rAs am_m183 d_183_433 rfl rfl ls st i N I L h0 h1
theorem d_183_434 : am_code 183 434 = some (.invokevirtual 49, 3) := by decide +kernel
theorem s_183_434 (cl : am_C) (ls : am_Ls) (x0 : Int) (x1 : Int) (x2 : Int) (N : Nat) (I : Nat → Int → Int) (L : Nat → Int → Int64) : am_go0 cl 183 434 ls [.inl x2, .inl x1, .inl x0, .inr (.inr (some 1))] (am_GS N, am_GR, I, L) = am_bd (cl 121 [.inr (.inr (some 1)), .inl x0, .inl x1, .inl x2] (am_GS N, am_GR, I, L)) (fun v h2 => am_go0 cl 183 437 ls (v.toList ++ []) h2) := am_rV am_m183 d_183_434 am_k10049 rfl am_m121 (gs_1 N) (by decide) (Nat.le_of_ble_eq_true rfl) rfl ls
theorem d_183_437 : am_code 183 437 = some (.aload_n 2, 1) := by decide +kernel
theorem s_183_437 (cl : am_C) (a0 a1 a3 : Option am_V) (x : Nat) (st : List am_V) (h : am_H) : am_go0 cl 183 437 [a0, a1, some (.inr (.inr (some x))), a3] st h = am_go0 cl 183 438 [a0, a1, some (.inr (.inr (some x))), a3] (.inr (.inr (some x)) :: st) h := am_r am_m183 d_183_437 rfl
theorem d_183_438 : am_code 183 438 = some (.aload_n 0, 1) := by decide +kernel
theorem s_183_438 (cl : am_C) (a1 a2 a3 : Option am_V) (x : Nat) (st : List am_V) (h : am_H) : am_go0 cl 183 438 [some (.inr (.inr (some x))), a1, a2, a3] st h = am_go0 cl 183 439 [some (.inr (.inr (some x))), a1, a2, a3] (.inr (.inr (some x)) :: st) h := am_r am_m183 d_183_438 rfl
theorem d_183_439 : am_code 183 439 = some (.iload_n 3, 1) := by decide +kernel
theorem s_183_439 (cl : am_C) (a0 a1 a2 : Option am_V) (x : Int) (st : List am_V) (h : am_H) : am_go0 cl 183 439 [a0, a1, a2, some (.inl x)] st h = am_go0 cl 183 440 [a0, a1, a2, some (.inl x)] (.inl x :: st) h := am_r am_m183 d_183_439 rfl
theorem d_183_440 : am_code 183 440 = some (.iconst 1, 1) := by decide +kernel
theorem s_183_440 (cl : am_C) (ls : am_Ls) (st : List am_V) (h : am_H) : am_go0 cl 183 440 ls st h = am_go0 cl 183 441 ls (.inl 1 :: st) h := am_rK am_m183 d_183_440 (by decide) rfl _ _ _
theorem d_183_441 : am_code 183 441 = some (.iadd, 1) := by decide +kernel
theorem s_183_441 (cl : am_C) (ls : am_Ls) (x y : Int) (st : List am_V) (h : am_H) : am_go0 cl 183 441 ls (.inl y :: .inl x :: st) h = am_go0 cl 183 442 ls (.inl (am_wr (x + y)) :: st) h := am_r am_m183 d_183_441 rfl
theorem d_183_442 : am_code 183 442 = some (.iaload, 1) := by decide +kernel
theorem s_183_442 (cl : am_C) (ls : am_Ls) (i : Int) (st : List am_V) (N : Nat) (I : Nat → Int → Int) (L : Nat → Int → Int64) (h0 : 0 ≤ i) (h1 : i < (N : Int)) : am_go0 cl 183 442 ls (.inl i :: .inr (.inr (some 0)) :: st) (am_GS N, am_GR, I, L) = am_go0 cl 183 443 ls (.inl (I 0 i) :: st) (am_GS N, am_GR, I, L) := am_rAs am_m183 d_183_442 rfl rfl ls st i N I L h0 h1
theorem d_183_443 : am_code 183 443 = some (.aload_n 0, 1) := by decide +kernel
theorem s_183_443 (cl : am_C) (a1 a2 a3 : Option am_V) (x : Nat) (st : List am_V) (h : am_H) : am_go0 cl 183 443 [some (.inr (.inr (some x))), a1, a2, a3] st h = am_go0 cl 183 444 [some (.inr (.inr (some x))), a1, a2, a3] (.inr (.inr (some x)) :: st) h := am_r am_m183 d_183_443 rfl
theorem d_183_444 : am_code 183 444 = some (.iload_n 3, 1) := by decide +kernel
theorem s_183_444 (cl : am_C) (a0 a1 a2 : Option am_V) (x : Int) (st : List am_V) (h : am_H) : am_go0 cl 183 444 [a0, a1, a2, some (.inl x)] st h = am_go0 cl 183 445 [a0, a1, a2, some (.inl x)] (.inl x :: st) h := am_r am_m183 d_183_444 rfl
theorem d_183_445 : am_code 183 445 = some (.iconst 2, 1) := by decide +kernel
theorem s_183_445 (cl : am_C) (ls : am_Ls) (st : List am_V) (h : am_H) : am_go0 cl 183 445 ls st h = am_go0 cl 183 446 ls (.inl 2 :: st) h := am_rK am_m183 d_183_445 (by decide) rfl _ _ _
theorem d_183_446 : am_code 183 446 = some (.iadd, 1) := by decide +kernel
theorem s_183_446 (cl : am_C) (ls : am_Ls) (x y : Int) (st : List am_V) (h : am_H) : am_go0 cl 183 446 ls (.inl y :: .inl x :: st) h = am_go0 cl 183 447 ls (.inl (am_wr (x + y)) :: st) h := am_r am_m183 d_183_446 rfl
theorem d_183_447 : am_code 183 447 = some (.iaload, 1) := by decide +kernel
theorem s_183_447 (cl : am_C) (ls : am_Ls) (i : Int) (st : List am_V) (N : Nat) (I : Nat → Int → Int) (L : Nat → Int → Int64) (h0 : 0 ≤ i) (h1 : i < (N : Int)) : am_go0 cl 183 447 ls (.inl i :: .inr (.inr (some 0)) :: st) (am_GS N, am_GR, I, L) = am_go0 cl 183 448 ls (.inl (I 0 i) :: st) (am_GS N, am_GR, I, L) := am_rAs am_m183 d_183_447 rfl rfl ls st i N I L h0 h1
theorem d_183_448 : am_code 183 448 = some (.aload_n 0, 1) := by decide +kernel
theorem s_183_448 (cl : am_C) (a1 a2 a3 : Option am_V) (x : Nat) (st : List am_V) (h : am_H) : am_go0 cl 183 448 [some (.inr (.inr (some x))), a1, a2, a3] st h = am_go0 cl 183 449 [some (.inr (.inr (some x))), a1, a2, a3] (.inr (.inr (some x)) :: st) h := am_r am_m183 d_183_448 rfl
theorem d_183_449 : am_code 183 449 = some (.iload_n 3, 1) := by decide +kernel
theorem s_183_449 (cl : am_C) (a0 a1 a2 : Option am_V) (x : Int) (st : List am_V) (h : am_H) : am_go0 cl 183 449 [a0, a1, a2, some (.inl x)] st h = am_go0 cl 183 450 [a0, a1, a2, some (.inl x)] (.inl x :: st) h := am_r am_m183 d_183_449 rfl
theorem d_183_450 : am_code 183 450 = some (.iconst 3, 1) := by decide +kernel
theorem s_183_450 (cl : am_C) (ls : am_Ls) (st : List am_V) (h : am_H) : am_go0 cl 183 450 ls st h = am_go0 cl 183 451 ls (.inl 3 :: st) h := am_rK am_m183 d_183_450 (by decide) rfl _ _ _
theorem d_183_451 : am_code 183 451 = some (.iadd, 1) := by decide +kernel
theorem s_183_451 (cl : am_C) (ls : am_Ls) (x y : Int) (st : List am_V) (h : am_H) : am_go0 cl 183 451 ls (.inl y :: .inl x :: st) h = am_go0 cl 183 452 ls (.inl (am_wr (x + y)) :: st) h := am_r am_m183 d_183_451 rfl
theorem d_183_452 : am_code 183 452 = some (.iaload, 1) := by decide +kernel
theorem s_183_452 (cl : am_C) (ls : am_Ls) (i : Int) (st : List am_V) (N : Nat) (I : Nat → Int → Int) (L : Nat → Int → Int64) (h0 : 0 ≤ i) (h1 : i < (N : Int)) : am_go0 cl 183 452 ls (.inl i :: .inr (.inr (some 0)) :: st) (am_GS N, am_GR, I, L) = am_go0 cl 183 453 ls (.inl (I 0 i) :: st) (am_GS N, am_GR, I, L) := am_rAs am_m183 d_183_452 rfl rfl ls st i N I L h0 h1
theorem d_183_453 : am_code 183 453 = some (.invokevirtual 52, 3) := by decide +kernel
theorem s_183_453 (cl : am_C) (ls : am_Ls) (x0 : Int) (x1 : Int) (x2 : Int) (z0 : Int) (N : Nat) (I : Nat → Int → Int) (L : Nat → Int → Int64) : am_go0 cl 183 453 ls [.inl x2, .inl x1, .inl x0, .inr (.inr (some 53)), .inl z0] (am_GS N, am_GR, I, L) = am_bd (cl 155 [.inr (.inr (some 53)), .inl x0, .inl x1, .inl x2] (am_GS N, am_GR, I, L)) (fun v h2 => am_go0 cl 183 456 ls (v.toList ++ [.inl z0]) h2) := am_rV am_m183 d_183_453 am_k10052 rfl am_m155 (gs_53 N) (by decide) (Nat.le_of_ble_eq_true rfl) rfl ls
theorem d_183_456 : am_code 183 456 = some (.if_icmp .eq 306, 3) := by decide +kernel
theorem s_183_456 (cl : am_C) (ls : am_Ls) (x y : Int) (st : List am_V) (h : am_H) : am_go0 cl 183 456 ls (.inl y :: .inl x :: st) h = if x = y then am_go0 cl 183 762 ls st h else am_go0 cl 183 459 ls st h := (am_rJ0 am_m183 d_183_456 (by decide) rfl x y ls st h).trans (am_ifT (am_cmp_eq x y) _ _)
theorem d_183_459 : am_code 183 459 = some (.iconst 0, 1) := by decide +kernel
theorem s_183_459 (cl : am_C) (ls : am_Ls) (st : List am_V) (h : am_H) : am_go0 cl 183 459 ls st h = am_go0 cl 183 460 ls (.inl 0 :: st) h := am_rK am_m183 d_183_459 (by decide) rfl _ _ _
theorem d_183_460 : am_code 183 460 = some (.ireturn, 1) := by decide +kernel
theorem s_183_460 (cl : am_C) (ls : am_Ls) (x : Int) (h : am_H) : am_go0 cl 183 460 ls [.inl x] h = if x = 0 ∨ x = 1 then some (some (.inl x), h) else none := am_rRz am_m183 d_183_460 x ls h
theorem d_183_461 : am_code 183 461 = some (.aload_n 1, 1) := by decide +kernel
theorem s_183_461 (cl : am_C) (a0 a2 a3 : Option am_V) (x : Nat) (st : List am_V) (h : am_H) : am_go0 cl 183 461 [a0, some (.inr (.inr (some x))), a2, a3] st h = am_go0 cl 183 462 [a0, some (.inr (.inr (some x))), a2, a3] (.inr (.inr (some x)) :: st) h := am_r am_m183 d_183_461 rfl
theorem d_183_462 : am_code 183 462 = some (.aload_n 0, 1) := by decide +kernel
theorem s_183_462 (cl : am_C) (a1 a2 a3 : Option am_V) (x : Nat) (st : List am_V) (h : am_H) : am_go0 cl 183 462 [some (.inr (.inr (some x))), a1, a2, a3] st h = am_go0 cl 183 463 [some (.inr (.inr (some x))), a1, a2, a3] (.inr (.inr (some x)) :: st) h := am_r am_m183 d_183_462 rfl
theorem d_183_463 : am_code 183 463 = some (.iload_n 3, 1) := by decide +kernel
theorem s_183_463 (cl : am_C) (a0 a1 a2 : Option am_V) (x : Int) (st : List am_V) (h : am_H) : am_go0 cl 183 463 [a0, a1, a2, some (.inl x)] st h = am_go0 cl 183 464 [a0, a1, a2, some (.inl x)] (.inl x :: st) h := am_r am_m183 d_183_463 rfl
theorem d_183_464 : am_code 183 464 = some (.iconst 1, 1) := by decide +kernel
theorem s_183_464 (cl : am_C) (ls : am_Ls) (st : List am_V) (h : am_H) : am_go0 cl 183 464 ls st h = am_go0 cl 183 465 ls (.inl 1 :: st) h := am_rK am_m183 d_183_464 (by decide) rfl _ _ _
theorem d_183_465 : am_code 183 465 = some (.iadd, 1) := by decide +kernel
theorem s_183_465 (cl : am_C) (ls : am_Ls) (x y : Int) (st : List am_V) (h : am_H) : am_go0 cl 183 465 ls (.inl y :: .inl x :: st) h = am_go0 cl 183 466 ls (.inl (am_wr (x + y)) :: st) h := am_r am_m183 d_183_465 rfl
theorem d_183_466 : am_code 183 466 = some (.iaload, 1) := by decide +kernel
theorem s_183_466 (cl : am_C) (ls : am_Ls) (i : Int) (st : List am_V) (N : Nat) (I : Nat → Int → Int) (L : Nat → Int → Int64) (h0 : 0 ≤ i) (h1 : i < (N : Int)) : am_go0 cl 183 466 ls (.inl i :: .inr (.inr (some 0)) :: st) (am_GS N, am_GR, I, L) = am_go0 cl 183 467 ls (.inl (I 0 i) :: st) (am_GS N, am_GR, I, L) := am_rAs am_m183 d_183_466 rfl rfl ls st i N I L h0 h1
theorem d_183_467 : am_code 183 467 = some (.aload_n 0, 1) := by decide +kernel
theorem s_183_467 (cl : am_C) (a1 a2 a3 : Option am_V) (x : Nat) (st : List am_V) (h : am_H) : am_go0 cl 183 467 [some (.inr (.inr (some x))), a1, a2, a3] st h = am_go0 cl 183 468 [some (.inr (.inr (some x))), a1, a2, a3] (.inr (.inr (some x)) :: st) h := am_r am_m183 d_183_467 rfl
theorem d_183_468 : am_code 183 468 = some (.iload_n 3, 1) := by decide +kernel
theorem s_183_468 (cl : am_C) (a0 a1 a2 : Option am_V) (x : Int) (st : List am_V) (h : am_H) : am_go0 cl 183 468 [a0, a1, a2, some (.inl x)] st h = am_go0 cl 183 469 [a0, a1, a2, some (.inl x)] (.inl x :: st) h := am_r am_m183 d_183_468 rfl
theorem d_183_469 : am_code 183 469 = some (.iconst 2, 1) := by decide +kernel
theorem s_183_469 (cl : am_C) (ls : am_Ls) (st : List am_V) (h : am_H) : am_go0 cl 183 469 ls st h = am_go0 cl 183 470 ls (.inl 2 :: st) h := am_rK am_m183 d_183_469 (by decide) rfl _ _ _
theorem d_183_470 : am_code 183 470 = some (.iadd, 1) := by decide +kernel
theorem s_183_470 (cl : am_C) (ls : am_Ls) (x y : Int) (st : List am_V) (h : am_H) : am_go0 cl 183 470 ls (.inl y :: .inl x :: st) h = am_go0 cl 183 471 ls (.inl (am_wr (x + y)) :: st) h := am_r am_m183 d_183_470 rfl
theorem d_183_471 : am_code 183 471 = some (.iaload, 1) := by decide +kernel
theorem s_183_471 (cl : am_C) (ls : am_Ls) (i : Int) (st : List am_V) (N : Nat) (I : Nat → Int → Int) (L : Nat → Int → Int64) (h0 : 0 ≤ i) (h1 : i < (N : Int)) : am_go0 cl 183 471 ls (.inl i :: .inr (.inr (some 0)) :: st) (am_GS N, am_GR, I, L) = am_go0 cl 183 472 ls (.inl (I 0 i) :: st) (am_GS N, am_GR, I, L) := am_rAs am_m183 d_183_471 rfl rfl ls st i N I L h0 h1
theorem d_183_472 : am_code 183 472 = some (.invokevirtual 53, 3) := by decide +kernel
theorem s_183_472 (cl : am_C) (ls : am_Ls) (x0 : Int) (x1 : Int) (N : Nat) (I : Nat → Int → Int) (L : Nat → Int → Int64) : am_go0 cl 183 472 ls [.inl x1, .inl x0, .inr (.inr (some 1))] (am_GS N, am_GR, I, L) = am_bd (cl 122 [.inr (.inr (some 1)), .inl x0, .inl x1] (am_GS N, am_GR, I, L)) (fun v h2 => am_go0 cl 183 475 ls (v.toList ++ []) h2) := am_rV am_m183 d_183_472 am_k10053 rfl am_m122 (gs_1 N) (by decide) (Nat.le_of_ble_eq_true rfl) rfl ls
theorem d_183_475 : am_code 183 475 = some (.aload_n 2, 1) := by decide +kernel
theorem s_183_475 (cl : am_C) (a0 a1 a3 : Option am_V) (x : Nat) (st : List am_V) (h : am_H) : am_go0 cl 183 475 [a0, a1, some (.inr (.inr (some x))), a3] st h = am_go0 cl 183 476 [a0, a1, some (.inr (.inr (some x))), a3] (.inr (.inr (some x)) :: st) h := am_r am_m183 d_183_475 rfl
theorem d_183_476 : am_code 183 476 = some (.aload_n 0, 1) := by decide +kernel
theorem s_183_476 (cl : am_C) (a1 a2 a3 : Option am_V) (x : Nat) (st : List am_V) (h : am_H) : am_go0 cl 183 476 [some (.inr (.inr (some x))), a1, a2, a3] st h = am_go0 cl 183 477 [some (.inr (.inr (some x))), a1, a2, a3] (.inr (.inr (some x)) :: st) h := am_r am_m183 d_183_476 rfl
theorem d_183_477 : am_code 183 477 = some (.iload_n 3, 1) := by decide +kernel
theorem s_183_477 (cl : am_C) (a0 a1 a2 : Option am_V) (x : Int) (st : List am_V) (h : am_H) : am_go0 cl 183 477 [a0, a1, a2, some (.inl x)] st h = am_go0 cl 183 478 [a0, a1, a2, some (.inl x)] (.inl x :: st) h := am_r am_m183 d_183_477 rfl
theorem d_183_478 : am_code 183 478 = some (.iconst 1, 1) := by decide +kernel
theorem s_183_478 (cl : am_C) (ls : am_Ls) (st : List am_V) (h : am_H) : am_go0 cl 183 478 ls st h = am_go0 cl 183 479 ls (.inl 1 :: st) h := am_rK am_m183 d_183_478 (by decide) rfl _ _ _
theorem d_183_479 : am_code 183 479 = some (.iadd, 1) := by decide +kernel
theorem s_183_479 (cl : am_C) (ls : am_Ls) (x y : Int) (st : List am_V) (h : am_H) : am_go0 cl 183 479 ls (.inl y :: .inl x :: st) h = am_go0 cl 183 480 ls (.inl (am_wr (x + y)) :: st) h := am_r am_m183 d_183_479 rfl
theorem d_183_480 : am_code 183 480 = some (.iaload, 1) := by decide +kernel
theorem s_183_480 (cl : am_C) (ls : am_Ls) (i : Int) (st : List am_V) (N : Nat) (I : Nat → Int → Int) (L : Nat → Int → Int64) (h0 : 0 ≤ i) (h1 : i < (N : Int)) : am_go0 cl 183 480 ls (.inl i :: .inr (.inr (some 0)) :: st) (am_GS N, am_GR, I, L) = am_go0 cl 183 481 ls (.inl (I 0 i) :: st) (am_GS N, am_GR, I, L) := am_rAs am_m183 d_183_480 rfl rfl ls st i N I L h0 h1
theorem d_183_481 : am_code 183 481 = some (.aload_n 0, 1) := by decide +kernel
theorem s_183_481 (cl : am_C) (a1 a2 a3 : Option am_V) (x : Nat) (st : List am_V) (h : am_H) : am_go0 cl 183 481 [some (.inr (.inr (some x))), a1, a2, a3] st h = am_go0 cl 183 482 [some (.inr (.inr (some x))), a1, a2, a3] (.inr (.inr (some x)) :: st) h := am_r am_m183 d_183_481 rfl
theorem d_183_482 : am_code 183 482 = some (.iload_n 3, 1) := by decide +kernel
theorem s_183_482 (cl : am_C) (a0 a1 a2 : Option am_V) (x : Int) (st : List am_V) (h : am_H) : am_go0 cl 183 482 [a0, a1, a2, some (.inl x)] st h = am_go0 cl 183 483 [a0, a1, a2, some (.inl x)] (.inl x :: st) h := am_r am_m183 d_183_482 rfl
theorem d_183_483 : am_code 183 483 = some (.iconst 2, 1) := by decide +kernel
theorem s_183_483 (cl : am_C) (ls : am_Ls) (st : List am_V) (h : am_H) : am_go0 cl 183 483 ls st h = am_go0 cl 183 484 ls (.inl 2 :: st) h := am_rK am_m183 d_183_483 (by decide) rfl _ _ _
theorem d_183_484 : am_code 183 484 = some (.iadd, 1) := by decide +kernel
theorem s_183_484 (cl : am_C) (ls : am_Ls) (x y : Int) (st : List am_V) (h : am_H) : am_go0 cl 183 484 ls (.inl y :: .inl x :: st) h = am_go0 cl 183 485 ls (.inl (am_wr (x + y)) :: st) h := am_r am_m183 d_183_484 rfl
theorem d_183_485 : am_code 183 485 = some (.iaload, 1) := by decide +kernel
theorem s_183_485 (cl : am_C) (ls : am_Ls) (i : Int) (st : List am_V) (N : Nat) (I : Nat → Int → Int) (L : Nat → Int → Int64) (h0 : 0 ≤ i) (h1 : i < (N : Int)) : am_go0 cl 183 485 ls (.inl i :: .inr (.inr (some 0)) :: st) (am_GS N, am_GR, I, L) = am_go0 cl 183 486 ls (.inl (I 0 i) :: st) (am_GS N, am_GR, I, L) := am_rAs am_m183 d_183_485 rfl rfl ls st i N I L h0 h1
theorem d_183_486 : am_code 183 486 = some (.invokevirtual 56, 3) := by decide +kernel
theorem s_183_486 (cl : am_C) (ls : am_Ls) (x0 : Int) (x1 : Int) (z0 : Int) (N : Nat) (I : Nat → Int → Int) (L : Nat → Int → Int64) : am_go0 cl 183 486 ls [.inl x1, .inl x0, .inr (.inr (some 53)), .inl z0] (am_GS N, am_GR, I, L) = am_bd (cl 156 [.inr (.inr (some 53)), .inl x0, .inl x1] (am_GS N, am_GR, I, L)) (fun v h2 => am_go0 cl 183 489 ls (v.toList ++ [.inl z0]) h2) := am_rV am_m183 d_183_486 am_k10056 rfl am_m156 (gs_53 N) (by decide) (Nat.le_of_ble_eq_true rfl) rfl ls
theorem d_183_489 : am_code 183 489 = some (.if_icmp .eq 273, 3) := by decide +kernel
theorem s_183_489 (cl : am_C) (ls : am_Ls) (x y : Int) (st : List am_V) (h : am_H) : am_go0 cl 183 489 ls (.inl y :: .inl x :: st) h = if x = y then am_go0 cl 183 762 ls st h else am_go0 cl 183 492 ls st h := (am_rJ0 am_m183 d_183_489 (by decide) rfl x y ls st h).trans (am_ifT (am_cmp_eq x y) _ _)
theorem d_183_492 : am_code 183 492 = some (.iconst 0, 1) := by decide +kernel
theorem s_183_492 (cl : am_C) (ls : am_Ls) (st : List am_V) (h : am_H) : am_go0 cl 183 492 ls st h = am_go0 cl 183 493 ls (.inl 0 :: st) h := am_rK am_m183 d_183_492 (by decide) rfl _ _ _
theorem d_183_493 : am_code 183 493 = some (.ireturn, 1) := by decide +kernel
theorem s_183_493 (cl : am_C) (ls : am_Ls) (x : Int) (h : am_H) : am_go0 cl 183 493 ls [.inl x] h = if x = 0 ∨ x = 1 then some (some (.inl x), h) else none := am_rRz am_m183 d_183_493 x ls h
theorem d_183_494 : am_code 183 494 = some (.aload_n 1, 1) := by decide +kernel
theorem s_183_494 (cl : am_C) (a0 a2 a3 : Option am_V) (x : Nat) (st : List am_V) (h : am_H) : am_go0 cl 183 494 [a0, some (.inr (.inr (some x))), a2, a3] st h = am_go0 cl 183 495 [a0, some (.inr (.inr (some x))), a2, a3] (.inr (.inr (some x)) :: st) h := am_r am_m183 d_183_494 rfl
theorem d_183_495 : am_code 183 495 = some (.aload_n 0, 1) := by decide +kernel
theorem s_183_495 (cl : am_C) (a1 a2 a3 : Option am_V) (x : Nat) (st : List am_V) (h : am_H) : am_go0 cl 183 495 [some (.inr (.inr (some x))), a1, a2, a3] st h = am_go0 cl 183 496 [some (.inr (.inr (some x))), a1, a2, a3] (.inr (.inr (some x)) :: st) h := am_r am_m183 d_183_495 rfl
theorem d_183_496 : am_code 183 496 = some (.iload_n 3, 1) := by decide +kernel
theorem s_183_496 (cl : am_C) (a0 a1 a2 : Option am_V) (x : Int) (st : List am_V) (h : am_H) : am_go0 cl 183 496 [a0, a1, a2, some (.inl x)] st h = am_go0 cl 183 497 [a0, a1, a2, some (.inl x)] (.inl x :: st) h := am_r am_m183 d_183_496 rfl
theorem d_183_497 : am_code 183 497 = some (.iconst 1, 1) := by decide +kernel
theorem s_183_497 (cl : am_C) (ls : am_Ls) (st : List am_V) (h : am_H) : am_go0 cl 183 497 ls st h = am_go0 cl 183 498 ls (.inl 1 :: st) h := am_rK am_m183 d_183_497 (by decide) rfl _ _ _
theorem d_183_498 : am_code 183 498 = some (.iadd, 1) := by decide +kernel
theorem s_183_498 (cl : am_C) (ls : am_Ls) (x y : Int) (st : List am_V) (h : am_H) : am_go0 cl 183 498 ls (.inl y :: .inl x :: st) h = am_go0 cl 183 499 ls (.inl (am_wr (x + y)) :: st) h := am_r am_m183 d_183_498 rfl
theorem d_183_499 : am_code 183 499 = some (.iaload, 1) := by decide +kernel
theorem s_183_499 (cl : am_C) (ls : am_Ls) (i : Int) (st : List am_V) (N : Nat) (I : Nat → Int → Int) (L : Nat → Int → Int64) (h0 : 0 ≤ i) (h1 : i < (N : Int)) : am_go0 cl 183 499 ls (.inl i :: .inr (.inr (some 0)) :: st) (am_GS N, am_GR, I, L) = am_go0 cl 183 500 ls (.inl (I 0 i) :: st) (am_GS N, am_GR, I, L) := am_rAs am_m183 d_183_499 rfl rfl ls st i N I L h0 h1
theorem d_183_500 : am_code 183 500 = some (.invokevirtual 57, 3) := by decide +kernel
theorem s_183_500 (cl : am_C) (ls : am_Ls) (x0 : Int) (N : Nat) (I : Nat → Int → Int) (L : Nat → Int → Int64) : am_go0 cl 183 500 ls [.inl x0, .inr (.inr (some 1))] (am_GS N, am_GR, I, L) = am_bd (cl 123 [.inr (.inr (some 1)), .inl x0] (am_GS N, am_GR, I, L)) (fun v h2 => am_go0 cl 183 503 ls (v.toList ++ []) h2) := am_rV am_m183 d_183_500 am_k10057 rfl am_m123 (gs_1 N) (by decide) (Nat.le_of_ble_eq_true rfl) rfl ls
theorem d_183_503 : am_code 183 503 = some (.aload_n 2, 1) := by decide +kernel
theorem s_183_503 (cl : am_C) (a0 a1 a3 : Option am_V) (x : Nat) (st : List am_V) (h : am_H) : am_go0 cl 183 503 [a0, a1, some (.inr (.inr (some x))), a3] st h = am_go0 cl 183 504 [a0, a1, some (.inr (.inr (some x))), a3] (.inr (.inr (some x)) :: st) h := am_r am_m183 d_183_503 rfl
theorem d_183_504 : am_code 183 504 = some (.aload_n 0, 1) := by decide +kernel
theorem s_183_504 (cl : am_C) (a1 a2 a3 : Option am_V) (x : Nat) (st : List am_V) (h : am_H) : am_go0 cl 183 504 [some (.inr (.inr (some x))), a1, a2, a3] st h = am_go0 cl 183 505 [some (.inr (.inr (some x))), a1, a2, a3] (.inr (.inr (some x)) :: st) h := am_r am_m183 d_183_504 rfl
theorem d_183_505 : am_code 183 505 = some (.iload_n 3, 1) := by decide +kernel
theorem s_183_505 (cl : am_C) (a0 a1 a2 : Option am_V) (x : Int) (st : List am_V) (h : am_H) : am_go0 cl 183 505 [a0, a1, a2, some (.inl x)] st h = am_go0 cl 183 506 [a0, a1, a2, some (.inl x)] (.inl x :: st) h := am_r am_m183 d_183_505 rfl
theorem d_183_506 : am_code 183 506 = some (.iconst 1, 1) := by decide +kernel
theorem s_183_506 (cl : am_C) (ls : am_Ls) (st : List am_V) (h : am_H) : am_go0 cl 183 506 ls st h = am_go0 cl 183 507 ls (.inl 1 :: st) h := am_rK am_m183 d_183_506 (by decide) rfl _ _ _
theorem d_183_507 : am_code 183 507 = some (.iadd, 1) := by decide +kernel
theorem s_183_507 (cl : am_C) (ls : am_Ls) (x y : Int) (st : List am_V) (h : am_H) : am_go0 cl 183 507 ls (.inl y :: .inl x :: st) h = am_go0 cl 183 508 ls (.inl (am_wr (x + y)) :: st) h := am_r am_m183 d_183_507 rfl
theorem d_183_508 : am_code 183 508 = some (.iaload, 1) := by decide +kernel
theorem s_183_508 (cl : am_C) (ls : am_Ls) (i : Int) (st : List am_V) (N : Nat) (I : Nat → Int → Int) (L : Nat → Int → Int64) (h0 : 0 ≤ i) (h1 : i < (N : Int)) : am_go0 cl 183 508 ls (.inl i :: .inr (.inr (some 0)) :: st) (am_GS N, am_GR, I, L) = am_go0 cl 183 509 ls (.inl (I 0 i) :: st) (am_GS N, am_GR, I, L) := am_rAs am_m183 d_183_508 rfl rfl ls st i N I L h0 h1
theorem d_183_509 : am_code 183 509 = some (.invokevirtual 60, 3) := by decide +kernel
theorem s_183_509 (cl : am_C) (ls : am_Ls) (x0 : Int) (z0 : Int) (N : Nat) (I : Nat → Int → Int) (L : Nat → Int → Int64) : am_go0 cl 183 509 ls [.inl x0, .inr (.inr (some 53)), .inl z0] (am_GS N, am_GR, I, L) = am_bd (cl 162 [.inr (.inr (some 53)), .inl x0] (am_GS N, am_GR, I, L)) (fun v h2 => am_go0 cl 183 512 ls (v.toList ++ [.inl z0]) h2) := am_rV am_m183 d_183_509 am_k10060 rfl am_m162 (gs_53 N) (by decide) (Nat.le_of_ble_eq_true rfl) rfl ls
theorem d_183_512 : am_code 183 512 = some (.if_icmp .eq 250, 3) := by decide +kernel
theorem s_183_512 (cl : am_C) (ls : am_Ls) (x y : Int) (st : List am_V) (h : am_H) : am_go0 cl 183 512 ls (.inl y :: .inl x :: st) h = if x = y then am_go0 cl 183 762 ls st h else am_go0 cl 183 515 ls st h := (am_rJ0 am_m183 d_183_512 (by decide) rfl x y ls st h).trans (am_ifT (am_cmp_eq x y) _ _)
theorem d_183_515 : am_code 183 515 = some (.iconst 0, 1) := by decide +kernel
theorem s_183_515 (cl : am_C) (ls : am_Ls) (st : List am_V) (h : am_H) : am_go0 cl 183 515 ls st h = am_go0 cl 183 516 ls (.inl 0 :: st) h := am_rK am_m183 d_183_515 (by decide) rfl _ _ _
theorem d_183_516 : am_code 183 516 = some (.ireturn, 1) := by decide +kernel
theorem s_183_516 (cl : am_C) (ls : am_Ls) (x : Int) (h : am_H) : am_go0 cl 183 516 ls [.inl x] h = if x = 0 ∨ x = 1 then some (some (.inl x), h) else none := am_rRz am_m183 d_183_516 x ls h
theorem d_183_517 : am_code 183 517 = some (.aload_n 1, 1) := by decide +kernel
theorem s_183_517 (cl : am_C) (a0 a2 a3 : Option am_V) (x : Nat) (st : List am_V) (h : am_H) : am_go0 cl 183 517 [a0, some (.inr (.inr (some x))), a2, a3] st h = am_go0 cl 183 518 [a0, some (.inr (.inr (some x))), a2, a3] (.inr (.inr (some x)) :: st) h := am_r am_m183 d_183_517 rfl
theorem d_183_518 : am_code 183 518 = some (.aload_n 0, 1) := by decide +kernel
theorem s_183_518 (cl : am_C) (a1 a2 a3 : Option am_V) (x : Nat) (st : List am_V) (h : am_H) : am_go0 cl 183 518 [some (.inr (.inr (some x))), a1, a2, a3] st h = am_go0 cl 183 519 [some (.inr (.inr (some x))), a1, a2, a3] (.inr (.inr (some x)) :: st) h := am_r am_m183 d_183_518 rfl
theorem d_183_519 : am_code 183 519 = some (.iload_n 3, 1) := by decide +kernel
theorem s_183_519 (cl : am_C) (a0 a1 a2 : Option am_V) (x : Int) (st : List am_V) (h : am_H) : am_go0 cl 183 519 [a0, a1, a2, some (.inl x)] st h = am_go0 cl 183 520 [a0, a1, a2, some (.inl x)] (.inl x :: st) h := am_r am_m183 d_183_519 rfl
theorem d_183_520 : am_code 183 520 = some (.iconst 1, 1) := by decide +kernel
theorem s_183_520 (cl : am_C) (ls : am_Ls) (st : List am_V) (h : am_H) : am_go0 cl 183 520 ls st h = am_go0 cl 183 521 ls (.inl 1 :: st) h := am_rK am_m183 d_183_520 (by decide) rfl _ _ _
theorem d_183_521 : am_code 183 521 = some (.iadd, 1) := by decide +kernel
theorem s_183_521 (cl : am_C) (ls : am_Ls) (x y : Int) (st : List am_V) (h : am_H) : am_go0 cl 183 521 ls (.inl y :: .inl x :: st) h = am_go0 cl 183 522 ls (.inl (am_wr (x + y)) :: st) h := am_r am_m183 d_183_521 rfl
theorem d_183_522 : am_code 183 522 = some (.iaload, 1) := by decide +kernel
theorem s_183_522 (cl : am_C) (ls : am_Ls) (i : Int) (st : List am_V) (N : Nat) (I : Nat → Int → Int) (L : Nat → Int → Int64) (h0 : 0 ≤ i) (h1 : i < (N : Int)) : am_go0 cl 183 522 ls (.inl i :: .inr (.inr (some 0)) :: st) (am_GS N, am_GR, I, L) = am_go0 cl 183 523 ls (.inl (I 0 i) :: st) (am_GS N, am_GR, I, L) := am_rAs am_m183 d_183_522 rfl rfl ls st i N I L h0 h1
theorem d_183_523 : am_code 183 523 = some (.aload_n 0, 1) := by decide +kernel
theorem s_183_523 (cl : am_C) (a1 a2 a3 : Option am_V) (x : Nat) (st : List am_V) (h : am_H) : am_go0 cl 183 523 [some (.inr (.inr (some x))), a1, a2, a3] st h = am_go0 cl 183 524 [some (.inr (.inr (some x))), a1, a2, a3] (.inr (.inr (some x)) :: st) h := am_r am_m183 d_183_523 rfl
theorem d_183_524 : am_code 183 524 = some (.iload_n 3, 1) := by decide +kernel
theorem s_183_524 (cl : am_C) (a0 a1 a2 : Option am_V) (x : Int) (st : List am_V) (h : am_H) : am_go0 cl 183 524 [a0, a1, a2, some (.inl x)] st h = am_go0 cl 183 525 [a0, a1, a2, some (.inl x)] (.inl x :: st) h := am_r am_m183 d_183_524 rfl
theorem d_183_525 : am_code 183 525 = some (.iconst 2, 1) := by decide +kernel
theorem s_183_525 (cl : am_C) (ls : am_Ls) (st : List am_V) (h : am_H) : am_go0 cl 183 525 ls st h = am_go0 cl 183 526 ls (.inl 2 :: st) h := am_rK am_m183 d_183_525 (by decide) rfl _ _ _
theorem d_183_526 : am_code 183 526 = some (.iadd, 1) := by decide +kernel
theorem s_183_526 (cl : am_C) (ls : am_Ls) (x y : Int) (st : List am_V) (h : am_H) : am_go0 cl 183 526 ls (.inl y :: .inl x :: st) h = am_go0 cl 183 527 ls (.inl (am_wr (x + y)) :: st) h := am_r am_m183 d_183_526 rfl
theorem d_183_527 : am_code 183 527 = some (.iaload, 1) := by decide +kernel
theorem s_183_527 (cl : am_C) (ls : am_Ls) (i : Int) (st : List am_V) (N : Nat) (I : Nat → Int → Int) (L : Nat → Int → Int64) (h0 : 0 ≤ i) (h1 : i < (N : Int)) : am_go0 cl 183 527 ls (.inl i :: .inr (.inr (some 0)) :: st) (am_GS N, am_GR, I, L) = am_go0 cl 183 528 ls (.inl (I 0 i) :: st) (am_GS N, am_GR, I, L) := am_rAs am_m183 d_183_527 rfl rfl ls st i N I L h0 h1
theorem d_183_528 : am_code 183 528 = some (.invokevirtual 61, 3) := by decide +kernel
theorem s_183_528 (cl : am_C) (ls : am_Ls) (x0 : Int) (x1 : Int) (N : Nat) (I : Nat → Int → Int) (L : Nat → Int → Int64) : am_go0 cl 183 528 ls [.inl x1, .inl x0, .inr (.inr (some 1))] (am_GS N, am_GR, I, L) = am_bd (cl 124 [.inr (.inr (some 1)), .inl x0, .inl x1] (am_GS N, am_GR, I, L)) (fun v h2 => am_go0 cl 183 531 ls (v.toList ++ []) h2) := am_rV am_m183 d_183_528 am_k10061 rfl am_m124 (gs_1 N) (by decide) (Nat.le_of_ble_eq_true rfl) rfl ls
theorem d_183_531 : am_code 183 531 = some (.aload_n 2, 1) := by decide +kernel
theorem s_183_531 (cl : am_C) (a0 a1 a3 : Option am_V) (x : Nat) (st : List am_V) (h : am_H) : am_go0 cl 183 531 [a0, a1, some (.inr (.inr (some x))), a3] st h = am_go0 cl 183 532 [a0, a1, some (.inr (.inr (some x))), a3] (.inr (.inr (some x)) :: st) h := am_r am_m183 d_183_531 rfl
theorem d_183_532 : am_code 183 532 = some (.aload_n 0, 1) := by decide +kernel
theorem s_183_532 (cl : am_C) (a1 a2 a3 : Option am_V) (x : Nat) (st : List am_V) (h : am_H) : am_go0 cl 183 532 [some (.inr (.inr (some x))), a1, a2, a3] st h = am_go0 cl 183 533 [some (.inr (.inr (some x))), a1, a2, a3] (.inr (.inr (some x)) :: st) h := am_r am_m183 d_183_532 rfl
theorem d_183_533 : am_code 183 533 = some (.iload_n 3, 1) := by decide +kernel
theorem s_183_533 (cl : am_C) (a0 a1 a2 : Option am_V) (x : Int) (st : List am_V) (h : am_H) : am_go0 cl 183 533 [a0, a1, a2, some (.inl x)] st h = am_go0 cl 183 534 [a0, a1, a2, some (.inl x)] (.inl x :: st) h := am_r am_m183 d_183_533 rfl
theorem d_183_534 : am_code 183 534 = some (.iconst 1, 1) := by decide +kernel
theorem s_183_534 (cl : am_C) (ls : am_Ls) (st : List am_V) (h : am_H) : am_go0 cl 183 534 ls st h = am_go0 cl 183 535 ls (.inl 1 :: st) h := am_rK am_m183 d_183_534 (by decide) rfl _ _ _
theorem d_183_535 : am_code 183 535 = some (.iadd, 1) := by decide +kernel
theorem s_183_535 (cl : am_C) (ls : am_Ls) (x y : Int) (st : List am_V) (h : am_H) : am_go0 cl 183 535 ls (.inl y :: .inl x :: st) h = am_go0 cl 183 536 ls (.inl (am_wr (x + y)) :: st) h := am_r am_m183 d_183_535 rfl
theorem d_183_536 : am_code 183 536 = some (.iaload, 1) := by decide +kernel
theorem s_183_536 (cl : am_C) (ls : am_Ls) (i : Int) (st : List am_V) (N : Nat) (I : Nat → Int → Int) (L : Nat → Int → Int64) (h0 : 0 ≤ i) (h1 : i < (N : Int)) : am_go0 cl 183 536 ls (.inl i :: .inr (.inr (some 0)) :: st) (am_GS N, am_GR, I, L) = am_go0 cl 183 537 ls (.inl (I 0 i) :: st) (am_GS N, am_GR, I, L) := am_rAs am_m183 d_183_536 rfl rfl ls st i N I L h0 h1
theorem d_183_537 : am_code 183 537 = some (.aload_n 0, 1) := by decide +kernel
theorem s_183_537 (cl : am_C) (a1 a2 a3 : Option am_V) (x : Nat) (st : List am_V) (h : am_H) : am_go0 cl 183 537 [some (.inr (.inr (some x))), a1, a2, a3] st h = am_go0 cl 183 538 [some (.inr (.inr (some x))), a1, a2, a3] (.inr (.inr (some x)) :: st) h := am_r am_m183 d_183_537 rfl
theorem d_183_538 : am_code 183 538 = some (.iload_n 3, 1) := by decide +kernel
theorem s_183_538 (cl : am_C) (a0 a1 a2 : Option am_V) (x : Int) (st : List am_V) (h : am_H) : am_go0 cl 183 538 [a0, a1, a2, some (.inl x)] st h = am_go0 cl 183 539 [a0, a1, a2, some (.inl x)] (.inl x :: st) h := am_r am_m183 d_183_538 rfl
theorem d_183_539 : am_code 183 539 = some (.iconst 2, 1) := by decide +kernel
theorem s_183_539 (cl : am_C) (ls : am_Ls) (st : List am_V) (h : am_H) : am_go0 cl 183 539 ls st h = am_go0 cl 183 540 ls (.inl 2 :: st) h := am_rK am_m183 d_183_539 (by decide) rfl _ _ _
theorem d_183_540 : am_code 183 540 = some (.iadd, 1) := by decide +kernel
theorem s_183_540 (cl : am_C) (ls : am_Ls) (x y : Int) (st : List am_V) (h : am_H) : am_go0 cl 183 540 ls (.inl y :: .inl x :: st) h = am_go0 cl 183 541 ls (.inl (am_wr (x + y)) :: st) h := am_r am_m183 d_183_540 rfl
theorem d_183_541 : am_code 183 541 = some (.iaload, 1) := by decide +kernel
theorem s_183_541 (cl : am_C) (ls : am_Ls) (i : Int) (st : List am_V) (N : Nat) (I : Nat → Int → Int) (L : Nat → Int → Int64) (h0 : 0 ≤ i) (h1 : i < (N : Int)) : am_go0 cl 183 541 ls (.inl i :: .inr (.inr (some 0)) :: st) (am_GS N, am_GR, I, L) = am_go0 cl 183 542 ls (.inl (I 0 i) :: st) (am_GS N, am_GR, I, L) := am_rAs am_m183 d_183_541 rfl rfl ls st i N I L h0 h1
theorem d_183_542 : am_code 183 542 = some (.invokevirtual 64, 3) := by decide +kernel
theorem s_183_542 (cl : am_C) (ls : am_Ls) (x0 : Int) (x1 : Int) (z0 : Int) (N : Nat) (I : Nat → Int → Int) (L : Nat → Int → Int64) : am_go0 cl 183 542 ls [.inl x1, .inl x0, .inr (.inr (some 53)), .inl z0] (am_GS N, am_GR, I, L) = am_bd (cl 163 [.inr (.inr (some 53)), .inl x0, .inl x1] (am_GS N, am_GR, I, L)) (fun v h2 => am_go0 cl 183 545 ls (v.toList ++ [.inl z0]) h2) := am_rV am_m183 d_183_542 am_k10064 rfl am_m163 (gs_53 N) (by decide) (Nat.le_of_ble_eq_true rfl) rfl ls
theorem d_183_545 : am_code 183 545 = some (.if_icmp .eq 217, 3) := by decide +kernel
theorem s_183_545 (cl : am_C) (ls : am_Ls) (x y : Int) (st : List am_V) (h : am_H) : am_go0 cl 183 545 ls (.inl y :: .inl x :: st) h = if x = y then am_go0 cl 183 762 ls st h else am_go0 cl 183 548 ls st h := (am_rJ0 am_m183 d_183_545 (by decide) rfl x y ls st h).trans (am_ifT (am_cmp_eq x y) _ _)
theorem d_183_548 : am_code 183 548 = some (.iconst 0, 1) := by decide +kernel
theorem s_183_548 (cl : am_C) (ls : am_Ls) (st : List am_V) (h : am_H) : am_go0 cl 183 548 ls st h = am_go0 cl 183 549 ls (.inl 0 :: st) h := am_rK am_m183 d_183_548 (by decide) rfl _ _ _
theorem d_183_549 : am_code 183 549 = some (.ireturn, 1) := by decide +kernel
theorem s_183_549 (cl : am_C) (ls : am_Ls) (x : Int) (h : am_H) : am_go0 cl 183 549 ls [.inl x] h = if x = 0 ∨ x = 1 then some (some (.inl x), h) else none := am_rRz am_m183 d_183_549 x ls h
theorem d_183_550 : am_code 183 550 = some (.aload_n 1, 1) := by decide +kernel
theorem s_183_550 (cl : am_C) (a0 a2 a3 : Option am_V) (x : Nat) (st : List am_V) (h : am_H) : am_go0 cl 183 550 [a0, some (.inr (.inr (some x))), a2, a3] st h = am_go0 cl 183 551 [a0, some (.inr (.inr (some x))), a2, a3] (.inr (.inr (some x)) :: st) h := am_r am_m183 d_183_550 rfl
theorem d_183_551 : am_code 183 551 = some (.aload_n 0, 1) := by decide +kernel
theorem s_183_551 (cl : am_C) (a1 a2 a3 : Option am_V) (x : Nat) (st : List am_V) (h : am_H) : am_go0 cl 183 551 [some (.inr (.inr (some x))), a1, a2, a3] st h = am_go0 cl 183 552 [some (.inr (.inr (some x))), a1, a2, a3] (.inr (.inr (some x)) :: st) h := am_r am_m183 d_183_551 rfl
theorem d_183_552 : am_code 183 552 = some (.iload_n 3, 1) := by decide +kernel
theorem s_183_552 (cl : am_C) (a0 a1 a2 : Option am_V) (x : Int) (st : List am_V) (h : am_H) : am_go0 cl 183 552 [a0, a1, a2, some (.inl x)] st h = am_go0 cl 183 553 [a0, a1, a2, some (.inl x)] (.inl x :: st) h := am_r am_m183 d_183_552 rfl
theorem d_183_553 : am_code 183 553 = some (.iconst 1, 1) := by decide +kernel
theorem s_183_553 (cl : am_C) (ls : am_Ls) (st : List am_V) (h : am_H) : am_go0 cl 183 553 ls st h = am_go0 cl 183 554 ls (.inl 1 :: st) h := am_rK am_m183 d_183_553 (by decide) rfl _ _ _
theorem d_183_554 : am_code 183 554 = some (.iadd, 1) := by decide +kernel
theorem s_183_554 (cl : am_C) (ls : am_Ls) (x y : Int) (st : List am_V) (h : am_H) : am_go0 cl 183 554 ls (.inl y :: .inl x :: st) h = am_go0 cl 183 555 ls (.inl (am_wr (x + y)) :: st) h := am_r am_m183 d_183_554 rfl
theorem d_183_555 : am_code 183 555 = some (.iaload, 1) := by decide +kernel
theorem s_183_555 (cl : am_C) (ls : am_Ls) (i : Int) (st : List am_V) (N : Nat) (I : Nat → Int → Int) (L : Nat → Int → Int64) (h0 : 0 ≤ i) (h1 : i < (N : Int)) : am_go0 cl 183 555 ls (.inl i :: .inr (.inr (some 0)) :: st) (am_GS N, am_GR, I, L) = am_go0 cl 183 556 ls (.inl (I 0 i) :: st) (am_GS N, am_GR, I, L) := am_rAs am_m183 d_183_555 rfl rfl ls st i N I L h0 h1
theorem d_183_556 : am_code 183 556 = some (.aload_n 0, 1) := by decide +kernel
theorem s_183_556 (cl : am_C) (a1 a2 a3 : Option am_V) (x : Nat) (st : List am_V) (h : am_H) : am_go0 cl 183 556 [some (.inr (.inr (some x))), a1, a2, a3] st h = am_go0 cl 183 557 [some (.inr (.inr (some x))), a1, a2, a3] (.inr (.inr (some x)) :: st) h := am_r am_m183 d_183_556 rfl
theorem d_183_557 : am_code 183 557 = some (.iload_n 3, 1) := by decide +kernel
theorem s_183_557 (cl : am_C) (a0 a1 a2 : Option am_V) (x : Int) (st : List am_V) (h : am_H) : am_go0 cl 183 557 [a0, a1, a2, some (.inl x)] st h = am_go0 cl 183 558 [a0, a1, a2, some (.inl x)] (.inl x :: st) h := am_r am_m183 d_183_557 rfl
theorem d_183_558 : am_code 183 558 = some (.iconst 2, 1) := by decide +kernel
theorem s_183_558 (cl : am_C) (ls : am_Ls) (st : List am_V) (h : am_H) : am_go0 cl 183 558 ls st h = am_go0 cl 183 559 ls (.inl 2 :: st) h := am_rK am_m183 d_183_558 (by decide) rfl _ _ _
theorem d_183_559 : am_code 183 559 = some (.iadd, 1) := by decide +kernel
theorem s_183_559 (cl : am_C) (ls : am_Ls) (x y : Int) (st : List am_V) (h : am_H) : am_go0 cl 183 559 ls (.inl y :: .inl x :: st) h = am_go0 cl 183 560 ls (.inl (am_wr (x + y)) :: st) h := am_r am_m183 d_183_559 rfl
theorem d_183_560 : am_code 183 560 = some (.iaload, 1) := by decide +kernel
theorem s_183_560 (cl : am_C) (ls : am_Ls) (i : Int) (st : List am_V) (N : Nat) (I : Nat → Int → Int) (L : Nat → Int → Int64) (h0 : 0 ≤ i) (h1 : i < (N : Int)) : am_go0 cl 183 560 ls (.inl i :: .inr (.inr (some 0)) :: st) (am_GS N, am_GR, I, L) = am_go0 cl 183 561 ls (.inl (I 0 i) :: st) (am_GS N, am_GR, I, L) := am_rAs am_m183 d_183_560 rfl rfl ls st i N I L h0 h1
theorem d_183_561 : am_code 183 561 = some (.invokevirtual 65, 3) := by decide +kernel
theorem s_183_561 (cl : am_C) (ls : am_Ls) (x0 : Int) (x1 : Int) (N : Nat) (I : Nat → Int → Int) (L : Nat → Int → Int64) : am_go0 cl 183 561 ls [.inl x1, .inl x0, .inr (.inr (some 1))] (am_GS N, am_GR, I, L) = am_bd (cl 125 [.inr (.inr (some 1)), .inl x0, .inl x1] (am_GS N, am_GR, I, L)) (fun v h2 => am_go0 cl 183 564 ls (v.toList ++ []) h2) := am_rV am_m183 d_183_561 am_k10065 rfl am_m125 (gs_1 N) (by decide) (Nat.le_of_ble_eq_true rfl) rfl ls
theorem d_183_564 : am_code 183 564 = some (.aload_n 2, 1) := by decide +kernel
theorem s_183_564 (cl : am_C) (a0 a1 a3 : Option am_V) (x : Nat) (st : List am_V) (h : am_H) : am_go0 cl 183 564 [a0, a1, some (.inr (.inr (some x))), a3] st h = am_go0 cl 183 565 [a0, a1, some (.inr (.inr (some x))), a3] (.inr (.inr (some x)) :: st) h := am_r am_m183 d_183_564 rfl
theorem d_183_565 : am_code 183 565 = some (.aload_n 0, 1) := by decide +kernel
theorem s_183_565 (cl : am_C) (a1 a2 a3 : Option am_V) (x : Nat) (st : List am_V) (h : am_H) : am_go0 cl 183 565 [some (.inr (.inr (some x))), a1, a2, a3] st h = am_go0 cl 183 566 [some (.inr (.inr (some x))), a1, a2, a3] (.inr (.inr (some x)) :: st) h := am_r am_m183 d_183_565 rfl
theorem d_183_566 : am_code 183 566 = some (.iload_n 3, 1) := by decide +kernel
theorem s_183_566 (cl : am_C) (a0 a1 a2 : Option am_V) (x : Int) (st : List am_V) (h : am_H) : am_go0 cl 183 566 [a0, a1, a2, some (.inl x)] st h = am_go0 cl 183 567 [a0, a1, a2, some (.inl x)] (.inl x :: st) h := am_r am_m183 d_183_566 rfl
theorem d_183_567 : am_code 183 567 = some (.iconst 1, 1) := by decide +kernel
theorem s_183_567 (cl : am_C) (ls : am_Ls) (st : List am_V) (h : am_H) : am_go0 cl 183 567 ls st h = am_go0 cl 183 568 ls (.inl 1 :: st) h := am_rK am_m183 d_183_567 (by decide) rfl _ _ _
theorem d_183_568 : am_code 183 568 = some (.iadd, 1) := by decide +kernel
theorem s_183_568 (cl : am_C) (ls : am_Ls) (x y : Int) (st : List am_V) (h : am_H) : am_go0 cl 183 568 ls (.inl y :: .inl x :: st) h = am_go0 cl 183 569 ls (.inl (am_wr (x + y)) :: st) h := am_r am_m183 d_183_568 rfl
theorem d_183_569 : am_code 183 569 = some (.iaload, 1) := by decide +kernel
theorem s_183_569 (cl : am_C) (ls : am_Ls) (i : Int) (st : List am_V) (N : Nat) (I : Nat → Int → Int) (L : Nat → Int → Int64) (h0 : 0 ≤ i) (h1 : i < (N : Int)) : am_go0 cl 183 569 ls (.inl i :: .inr (.inr (some 0)) :: st) (am_GS N, am_GR, I, L) = am_go0 cl 183 570 ls (.inl (I 0 i) :: st) (am_GS N, am_GR, I, L) := am_rAs am_m183 d_183_569 rfl rfl ls st i N I L h0 h1
theorem d_183_570 : am_code 183 570 = some (.aload_n 0, 1) := by decide +kernel
theorem s_183_570 (cl : am_C) (a1 a2 a3 : Option am_V) (x : Nat) (st : List am_V) (h : am_H) : am_go0 cl 183 570 [some (.inr (.inr (some x))), a1, a2, a3] st h = am_go0 cl 183 571 [some (.inr (.inr (some x))), a1, a2, a3] (.inr (.inr (some x)) :: st) h := am_r am_m183 d_183_570 rfl
theorem d_183_571 : am_code 183 571 = some (.iload_n 3, 1) := by decide +kernel
theorem s_183_571 (cl : am_C) (a0 a1 a2 : Option am_V) (x : Int) (st : List am_V) (h : am_H) : am_go0 cl 183 571 [a0, a1, a2, some (.inl x)] st h = am_go0 cl 183 572 [a0, a1, a2, some (.inl x)] (.inl x :: st) h := am_r am_m183 d_183_571 rfl
theorem d_183_572 : am_code 183 572 = some (.iconst 2, 1) := by decide +kernel
theorem s_183_572 (cl : am_C) (ls : am_Ls) (st : List am_V) (h : am_H) : am_go0 cl 183 572 ls st h = am_go0 cl 183 573 ls (.inl 2 :: st) h := am_rK am_m183 d_183_572 (by decide) rfl _ _ _
theorem d_183_573 : am_code 183 573 = some (.iadd, 1) := by decide +kernel
theorem s_183_573 (cl : am_C) (ls : am_Ls) (x y : Int) (st : List am_V) (h : am_H) : am_go0 cl 183 573 ls (.inl y :: .inl x :: st) h = am_go0 cl 183 574 ls (.inl (am_wr (x + y)) :: st) h := am_r am_m183 d_183_573 rfl
theorem d_183_574 : am_code 183 574 = some (.iaload, 1) := by decide +kernel
theorem s_183_574 (cl : am_C) (ls : am_Ls) (i : Int) (st : List am_V) (N : Nat) (I : Nat → Int → Int) (L : Nat → Int → Int64) (h0 : 0 ≤ i) (h1 : i < (N : Int)) : am_go0 cl 183 574 ls (.inl i :: .inr (.inr (some 0)) :: st) (am_GS N, am_GR, I, L) = am_go0 cl 183 575 ls (.inl (I 0 i) :: st) (am_GS N, am_GR, I, L) := am_rAs am_m183 d_183_574 rfl rfl ls st i N I L h0 h1
theorem d_183_575 : am_code 183 575 = some (.invokevirtual 68, 3) := by decide +kernel
theorem s_183_575 (cl : am_C) (ls : am_Ls) (x0 : Int) (x1 : Int) (z0 : Int) (N : Nat) (I : Nat → Int → Int) (L : Nat → Int → Int64) : am_go0 cl 183 575 ls [.inl x1, .inl x0, .inr (.inr (some 53)), .inl z0] (am_GS N, am_GR, I, L) = am_bd (cl 165 [.inr (.inr (some 53)), .inl x0, .inl x1] (am_GS N, am_GR, I, L)) (fun v h2 => am_go0 cl 183 578 ls (v.toList ++ [.inl z0]) h2) := am_rV am_m183 d_183_575 am_k10068 rfl am_m165 (gs_53 N) (by decide) (Nat.le_of_ble_eq_true rfl) rfl ls
theorem d_183_578 : am_code 183 578 = some (.if_icmp .eq 184, 3) := by decide +kernel
theorem s_183_578 (cl : am_C) (ls : am_Ls) (x y : Int) (st : List am_V) (h : am_H) : am_go0 cl 183 578 ls (.inl y :: .inl x :: st) h = if x = y then am_go0 cl 183 762 ls st h else am_go0 cl 183 581 ls st h := (am_rJ0 am_m183 d_183_578 (by decide) rfl x y ls st h).trans (am_ifT (am_cmp_eq x y) _ _)
theorem d_183_581 : am_code 183 581 = some (.iconst 0, 1) := by decide +kernel
theorem s_183_581 (cl : am_C) (ls : am_Ls) (st : List am_V) (h : am_H) : am_go0 cl 183 581 ls st h = am_go0 cl 183 582 ls (.inl 0 :: st) h := am_rK am_m183 d_183_581 (by decide) rfl _ _ _
theorem d_183_582 : am_code 183 582 = some (.ireturn, 1) := by decide +kernel
theorem s_183_582 (cl : am_C) (ls : am_Ls) (x : Int) (h : am_H) : am_go0 cl 183 582 ls [.inl x] h = if x = 0 ∨ x = 1 then some (some (.inl x), h) else none := am_rRz am_m183 d_183_582 x ls h
theorem d_183_583 : am_code 183 583 = some (.aload_n 1, 1) := by decide +kernel
theorem s_183_583 (cl : am_C) (a0 a2 a3 : Option am_V) (x : Nat) (st : List am_V) (h : am_H) : am_go0 cl 183 583 [a0, some (.inr (.inr (some x))), a2, a3] st h = am_go0 cl 183 584 [a0, some (.inr (.inr (some x))), a2, a3] (.inr (.inr (some x)) :: st) h := am_r am_m183 d_183_583 rfl
theorem d_183_584 : am_code 183 584 = some (.aload_n 0, 1) := by decide +kernel
theorem s_183_584 (cl : am_C) (a1 a2 a3 : Option am_V) (x : Nat) (st : List am_V) (h : am_H) : am_go0 cl 183 584 [some (.inr (.inr (some x))), a1, a2, a3] st h = am_go0 cl 183 585 [some (.inr (.inr (some x))), a1, a2, a3] (.inr (.inr (some x)) :: st) h := am_r am_m183 d_183_584 rfl
theorem d_183_585 : am_code 183 585 = some (.iload_n 3, 1) := by decide +kernel
theorem s_183_585 (cl : am_C) (a0 a1 a2 : Option am_V) (x : Int) (st : List am_V) (h : am_H) : am_go0 cl 183 585 [a0, a1, a2, some (.inl x)] st h = am_go0 cl 183 586 [a0, a1, a2, some (.inl x)] (.inl x :: st) h := am_r am_m183 d_183_585 rfl
theorem d_183_586 : am_code 183 586 = some (.iconst 1, 1) := by decide +kernel
theorem s_183_586 (cl : am_C) (ls : am_Ls) (st : List am_V) (h : am_H) : am_go0 cl 183 586 ls st h = am_go0 cl 183 587 ls (.inl 1 :: st) h := am_rK am_m183 d_183_586 (by decide) rfl _ _ _
theorem d_183_587 : am_code 183 587 = some (.iadd, 1) := by decide +kernel
theorem s_183_587 (cl : am_C) (ls : am_Ls) (x y : Int) (st : List am_V) (h : am_H) : am_go0 cl 183 587 ls (.inl y :: .inl x :: st) h = am_go0 cl 183 588 ls (.inl (am_wr (x + y)) :: st) h := am_r am_m183 d_183_587 rfl
theorem d_183_588 : am_code 183 588 = some (.iaload, 1) := by decide +kernel
theorem s_183_588 (cl : am_C) (ls : am_Ls) (i : Int) (st : List am_V) (N : Nat) (I : Nat → Int → Int) (L : Nat → Int → Int64) (h0 : 0 ≤ i) (h1 : i < (N : Int)) : am_go0 cl 183 588 ls (.inl i :: .inr (.inr (some 0)) :: st) (am_GS N, am_GR, I, L) = am_go0 cl 183 589 ls (.inl (I 0 i) :: st) (am_GS N, am_GR, I, L) := am_rAs am_m183 d_183_588 rfl rfl ls st i N I L h0 h1
theorem d_183_589 : am_code 183 589 = some (.aload_n 0, 1) := by decide +kernel
theorem s_183_589 (cl : am_C) (a1 a2 a3 : Option am_V) (x : Nat) (st : List am_V) (h : am_H) : am_go0 cl 183 589 [some (.inr (.inr (some x))), a1, a2, a3] st h = am_go0 cl 183 590 [some (.inr (.inr (some x))), a1, a2, a3] (.inr (.inr (some x)) :: st) h := am_r am_m183 d_183_589 rfl
theorem d_183_590 : am_code 183 590 = some (.iload_n 3, 1) := by decide +kernel
theorem s_183_590 (cl : am_C) (a0 a1 a2 : Option am_V) (x : Int) (st : List am_V) (h : am_H) : am_go0 cl 183 590 [a0, a1, a2, some (.inl x)] st h = am_go0 cl 183 591 [a0, a1, a2, some (.inl x)] (.inl x :: st) h := am_r am_m183 d_183_590 rfl
theorem d_183_591 : am_code 183 591 = some (.iconst 2, 1) := by decide +kernel
theorem s_183_591 (cl : am_C) (ls : am_Ls) (st : List am_V) (h : am_H) : am_go0 cl 183 591 ls st h = am_go0 cl 183 592 ls (.inl 2 :: st) h := am_rK am_m183 d_183_591 (by decide) rfl _ _ _
theorem d_183_592 : am_code 183 592 = some (.iadd, 1) := by decide +kernel
theorem s_183_592 (cl : am_C) (ls : am_Ls) (x y : Int) (st : List am_V) (h : am_H) : am_go0 cl 183 592 ls (.inl y :: .inl x :: st) h = am_go0 cl 183 593 ls (.inl (am_wr (x + y)) :: st) h := am_r am_m183 d_183_592 rfl
theorem d_183_593 : am_code 183 593 = some (.iaload, 1) := by decide +kernel
theorem s_183_593 (cl : am_C) (ls : am_Ls) (i : Int) (st : List am_V) (N : Nat) (I : Nat → Int → Int) (L : Nat → Int → Int64) (h0 : 0 ≤ i) (h1 : i < (N : Int)) : am_go0 cl 183 593 ls (.inl i :: .inr (.inr (some 0)) :: st) (am_GS N, am_GR, I, L) = am_go0 cl 183 594 ls (.inl (I 0 i) :: st) (am_GS N, am_GR, I, L) := am_rAs am_m183 d_183_593 rfl rfl ls st i N I L h0 h1
theorem d_183_594 : am_code 183 594 = some (.invokevirtual 69, 3) := by decide +kernel
theorem s_183_594 (cl : am_C) (ls : am_Ls) (x0 : Int) (x1 : Int) (N : Nat) (I : Nat → Int → Int) (L : Nat → Int → Int64) : am_go0 cl 183 594 ls [.inl x1, .inl x0, .inr (.inr (some 1))] (am_GS N, am_GR, I, L) = am_bd (cl 126 [.inr (.inr (some 1)), .inl x0, .inl x1] (am_GS N, am_GR, I, L)) (fun v h2 => am_go0 cl 183 597 ls (v.toList ++ []) h2) := am_rV am_m183 d_183_594 am_k10069 rfl am_m126 (gs_1 N) (by decide) (Nat.le_of_ble_eq_true rfl) rfl ls
theorem d_183_597 : am_code 183 597 = some (.aload_n 2, 1) := by decide +kernel
theorem s_183_597 (cl : am_C) (a0 a1 a3 : Option am_V) (x : Nat) (st : List am_V) (h : am_H) : am_go0 cl 183 597 [a0, a1, some (.inr (.inr (some x))), a3] st h = am_go0 cl 183 598 [a0, a1, some (.inr (.inr (some x))), a3] (.inr (.inr (some x)) :: st) h := am_r am_m183 d_183_597 rfl
theorem d_183_598 : am_code 183 598 = some (.aload_n 0, 1) := by decide +kernel
theorem s_183_598 (cl : am_C) (a1 a2 a3 : Option am_V) (x : Nat) (st : List am_V) (h : am_H) : am_go0 cl 183 598 [some (.inr (.inr (some x))), a1, a2, a3] st h = am_go0 cl 183 599 [some (.inr (.inr (some x))), a1, a2, a3] (.inr (.inr (some x)) :: st) h := am_r am_m183 d_183_598 rfl
theorem d_183_599 : am_code 183 599 = some (.iload_n 3, 1) := by decide +kernel
theorem s_183_599 (cl : am_C) (a0 a1 a2 : Option am_V) (x : Int) (st : List am_V) (h : am_H) : am_go0 cl 183 599 [a0, a1, a2, some (.inl x)] st h = am_go0 cl 183 600 [a0, a1, a2, some (.inl x)] (.inl x :: st) h := am_r am_m183 d_183_599 rfl
theorem d_183_600 : am_code 183 600 = some (.iconst 1, 1) := by decide +kernel
theorem s_183_600 (cl : am_C) (ls : am_Ls) (st : List am_V) (h : am_H) : am_go0 cl 183 600 ls st h = am_go0 cl 183 601 ls (.inl 1 :: st) h := am_rK am_m183 d_183_600 (by decide) rfl _ _ _
theorem d_183_601 : am_code 183 601 = some (.iadd, 1) := by decide +kernel
theorem s_183_601 (cl : am_C) (ls : am_Ls) (x y : Int) (st : List am_V) (h : am_H) : am_go0 cl 183 601 ls (.inl y :: .inl x :: st) h = am_go0 cl 183 602 ls (.inl (am_wr (x + y)) :: st) h := am_r am_m183 d_183_601 rfl
theorem d_183_602 : am_code 183 602 = some (.iaload, 1) := by decide +kernel
theorem s_183_602 (cl : am_C) (ls : am_Ls) (i : Int) (st : List am_V) (N : Nat) (I : Nat → Int → Int) (L : Nat → Int → Int64) (h0 : 0 ≤ i) (h1 : i < (N : Int)) : am_go0 cl 183 602 ls (.inl i :: .inr (.inr (some 0)) :: st) (am_GS N, am_GR, I, L) = am_go0 cl 183 603 ls (.inl (I 0 i) :: st) (am_GS N, am_GR, I, L) := am_rAs am_m183 d_183_602 rfl rfl ls st i N I L h0 h1
theorem d_183_603 : am_code 183 603 = some (.aload_n 0, 1) := by decide +kernel
theorem s_183_603 (cl : am_C) (a1 a2 a3 : Option am_V) (x : Nat) (st : List am_V) (h : am_H) : am_go0 cl 183 603 [some (.inr (.inr (some x))), a1, a2, a3] st h = am_go0 cl 183 604 [some (.inr (.inr (some x))), a1, a2, a3] (.inr (.inr (some x)) :: st) h := am_r am_m183 d_183_603 rfl
theorem d_183_604 : am_code 183 604 = some (.iload_n 3, 1) := by decide +kernel
theorem s_183_604 (cl : am_C) (a0 a1 a2 : Option am_V) (x : Int) (st : List am_V) (h : am_H) : am_go0 cl 183 604 [a0, a1, a2, some (.inl x)] st h = am_go0 cl 183 605 [a0, a1, a2, some (.inl x)] (.inl x :: st) h := am_r am_m183 d_183_604 rfl
theorem d_183_605 : am_code 183 605 = some (.iconst 2, 1) := by decide +kernel
theorem s_183_605 (cl : am_C) (ls : am_Ls) (st : List am_V) (h : am_H) : am_go0 cl 183 605 ls st h = am_go0 cl 183 606 ls (.inl 2 :: st) h := am_rK am_m183 d_183_605 (by decide) rfl _ _ _
theorem d_183_606 : am_code 183 606 = some (.iadd, 1) := by decide +kernel
theorem s_183_606 (cl : am_C) (ls : am_Ls) (x y : Int) (st : List am_V) (h : am_H) : am_go0 cl 183 606 ls (.inl y :: .inl x :: st) h = am_go0 cl 183 607 ls (.inl (am_wr (x + y)) :: st) h := am_r am_m183 d_183_606 rfl
theorem d_183_607 : am_code 183 607 = some (.iaload, 1) := by decide +kernel
theorem s_183_607 (cl : am_C) (ls : am_Ls) (i : Int) (st : List am_V) (N : Nat) (I : Nat → Int → Int) (L : Nat → Int → Int64) (h0 : 0 ≤ i) (h1 : i < (N : Int)) : am_go0 cl 183 607 ls (.inl i :: .inr (.inr (some 0)) :: st) (am_GS N, am_GR, I, L) = am_go0 cl 183 608 ls (.inl (I 0 i) :: st) (am_GS N, am_GR, I, L) := am_rAs am_m183 d_183_607 rfl rfl ls st i N I L h0 h1
theorem d_183_608 : am_code 183 608 = some (.invokevirtual 73, 3) := by decide +kernel
theorem s_183_608 (cl : am_C) (ls : am_Ls) (x0 : Int) (x1 : Int) (z0 : Int64) (N : Nat) (I : Nat → Int → Int) (L : Nat → Int → Int64) : am_go0 cl 183 608 ls [.inl x1, .inl x0, .inr (.inr (some 53)), .inr (.inl z0)] (am_GS N, am_GR, I, L) = am_bd (cl 167 [.inr (.inr (some 53)), .inl x0, .inl x1] (am_GS N, am_GR, I, L)) (fun v h2 => am_go0 cl 183 611 ls (v.toList ++ [.inr (.inl z0)]) h2) := am_rV am_m183 d_183_608 am_k10073 rfl am_m167 (gs_53 N) (by decide) (Nat.le_of_ble_eq_true rfl) rfl ls
theorem d_183_611 : am_code 183 611 = some (.lcmp, 1) := by decide +kernel
theorem s_183_611 (cl : am_C) (ls : am_Ls) (x y : Int64) (st : List am_V) (h : am_H) : am_go0 cl 183 611 ls (.inr (.inl y) :: .inr (.inl x) :: st) h = am_go0 cl 183 612 ls (.inl (lg_cmp x y).toInt :: st) h := am_r am_m183 d_183_611 rfl
theorem d_183_612 : am_code 183 612 = some (.ifCond .eq 150, 3) := by decide +kernel
theorem s_183_612 (cl : am_C) (ls : am_Ls) (x : Int) (st : List am_V) (h : am_H) : am_go0 cl 183 612 ls (.inl x :: st) h = if x = 0 then am_go0 cl 183 762 ls st h else am_go0 cl 183 615 ls st h := (am_rJ1 am_m183 d_183_612 (by decide) rfl x ls st h).trans (am_ifT (am_cmp_eq x 0) _ _)
theorem d_183_615 : am_code 183 615 = some (.iconst 0, 1) := by decide +kernel
theorem s_183_615 (cl : am_C) (ls : am_Ls) (st : List am_V) (h : am_H) : am_go0 cl 183 615 ls st h = am_go0 cl 183 616 ls (.inl 0 :: st) h := am_rK am_m183 d_183_615 (by decide) rfl _ _ _
theorem d_183_616 : am_code 183 616 = some (.ireturn, 1) := by decide +kernel
theorem s_183_616 (cl : am_C) (ls : am_Ls) (x : Int) (h : am_H) : am_go0 cl 183 616 ls [.inl x] h = if x = 0 ∨ x = 1 then some (some (.inl x), h) else none := am_rRz am_m183 d_183_616 x ls h
theorem d_183_617 : am_code 183 617 = some (.aload_n 1, 1) := by decide +kernel
theorem s_183_617 (cl : am_C) (a0 a2 a3 : Option am_V) (x : Nat) (st : List am_V) (h : am_H) : am_go0 cl 183 617 [a0, some (.inr (.inr (some x))), a2, a3] st h = am_go0 cl 183 618 [a0, some (.inr (.inr (some x))), a2, a3] (.inr (.inr (some x)) :: st) h := am_r am_m183 d_183_617 rfl
theorem d_183_618 : am_code 183 618 = some (.aload_n 0, 1) := by decide +kernel
theorem s_183_618 (cl : am_C) (a1 a2 a3 : Option am_V) (x : Nat) (st : List am_V) (h : am_H) : am_go0 cl 183 618 [some (.inr (.inr (some x))), a1, a2, a3] st h = am_go0 cl 183 619 [some (.inr (.inr (some x))), a1, a2, a3] (.inr (.inr (some x)) :: st) h := am_r am_m183 d_183_618 rfl
theorem d_183_619 : am_code 183 619 = some (.iload_n 3, 1) := by decide +kernel
theorem s_183_619 (cl : am_C) (a0 a1 a2 : Option am_V) (x : Int) (st : List am_V) (h : am_H) : am_go0 cl 183 619 [a0, a1, a2, some (.inl x)] st h = am_go0 cl 183 620 [a0, a1, a2, some (.inl x)] (.inl x :: st) h := am_r am_m183 d_183_619 rfl
theorem d_183_620 : am_code 183 620 = some (.iconst 1, 1) := by decide +kernel
theorem s_183_620 (cl : am_C) (ls : am_Ls) (st : List am_V) (h : am_H) : am_go0 cl 183 620 ls st h = am_go0 cl 183 621 ls (.inl 1 :: st) h := am_rK am_m183 d_183_620 (by decide) rfl _ _ _
theorem d_183_621 : am_code 183 621 = some (.iadd, 1) := by decide +kernel
theorem s_183_621 (cl : am_C) (ls : am_Ls) (x y : Int) (st : List am_V) (h : am_H) : am_go0 cl 183 621 ls (.inl y :: .inl x :: st) h = am_go0 cl 183 622 ls (.inl (am_wr (x + y)) :: st) h := am_r am_m183 d_183_621 rfl
theorem d_183_622 : am_code 183 622 = some (.iaload, 1) := by decide +kernel
theorem s_183_622 (cl : am_C) (ls : am_Ls) (i : Int) (st : List am_V) (N : Nat) (I : Nat → Int → Int) (L : Nat → Int → Int64) (h0 : 0 ≤ i) (h1 : i < (N : Int)) : am_go0 cl 183 622 ls (.inl i :: .inr (.inr (some 0)) :: st) (am_GS N, am_GR, I, L) = am_go0 cl 183 623 ls (.inl (I 0 i) :: st) (am_GS N, am_GR, I, L) := am_rAs am_m183 d_183_622 rfl rfl ls st i N I L h0 h1
theorem d_183_623 : am_code 183 623 = some (.invokevirtual 74, 3) := by decide +kernel
theorem s_183_623 (cl : am_C) (ls : am_Ls) (x0 : Int) (N : Nat) (I : Nat → Int → Int) (L : Nat → Int → Int64) : am_go0 cl 183 623 ls [.inl x0, .inr (.inr (some 1))] (am_GS N, am_GR, I, L) = am_bd (cl 128 [.inr (.inr (some 1)), .inl x0] (am_GS N, am_GR, I, L)) (fun v h2 => am_go0 cl 183 626 ls (v.toList ++ []) h2) := am_rV am_m183 d_183_623 am_k10074 rfl am_m128 (gs_1 N) (by decide) (Nat.le_of_ble_eq_true rfl) rfl ls
theorem d_183_626 : am_code 183 626 = some (.aload_n 2, 1) := by decide +kernel
theorem s_183_626 (cl : am_C) (a0 a1 a3 : Option am_V) (x : Nat) (st : List am_V) (h : am_H) : am_go0 cl 183 626 [a0, a1, some (.inr (.inr (some x))), a3] st h = am_go0 cl 183 627 [a0, a1, some (.inr (.inr (some x))), a3] (.inr (.inr (some x)) :: st) h := am_r am_m183 d_183_626 rfl
theorem d_183_627 : am_code 183 627 = some (.aload_n 0, 1) := by decide +kernel
theorem s_183_627 (cl : am_C) (a1 a2 a3 : Option am_V) (x : Nat) (st : List am_V) (h : am_H) : am_go0 cl 183 627 [some (.inr (.inr (some x))), a1, a2, a3] st h = am_go0 cl 183 628 [some (.inr (.inr (some x))), a1, a2, a3] (.inr (.inr (some x)) :: st) h := am_r am_m183 d_183_627 rfl
theorem d_183_628 : am_code 183 628 = some (.iload_n 3, 1) := by decide +kernel
theorem s_183_628 (cl : am_C) (a0 a1 a2 : Option am_V) (x : Int) (st : List am_V) (h : am_H) : am_go0 cl 183 628 [a0, a1, a2, some (.inl x)] st h = am_go0 cl 183 629 [a0, a1, a2, some (.inl x)] (.inl x :: st) h := am_r am_m183 d_183_628 rfl
theorem d_183_629 : am_code 183 629 = some (.iconst 1, 1) := by decide +kernel
theorem s_183_629 (cl : am_C) (ls : am_Ls) (st : List am_V) (h : am_H) : am_go0 cl 183 629 ls st h = am_go0 cl 183 630 ls (.inl 1 :: st) h := am_rK am_m183 d_183_629 (by decide) rfl _ _ _
theorem d_183_630 : am_code 183 630 = some (.iadd, 1) := by decide +kernel
theorem s_183_630 (cl : am_C) (ls : am_Ls) (x y : Int) (st : List am_V) (h : am_H) : am_go0 cl 183 630 ls (.inl y :: .inl x :: st) h = am_go0 cl 183 631 ls (.inl (am_wr (x + y)) :: st) h := am_r am_m183 d_183_630 rfl
theorem d_183_631 : am_code 183 631 = some (.iaload, 1) := by decide +kernel
theorem s_183_631 (cl : am_C) (ls : am_Ls) (i : Int) (st : List am_V) (N : Nat) (I : Nat → Int → Int) (L : Nat → Int → Int64) (h0 : 0 ≤ i) (h1 : i < (N : Int)) : am_go0 cl 183 631 ls (.inl i :: .inr (.inr (some 0)) :: st) (am_GS N, am_GR, I, L) = am_go0 cl 183 632 ls (.inl (I 0 i) :: st) (am_GS N, am_GR, I, L) := am_rAs am_m183 d_183_631 rfl rfl ls st i N I L h0 h1
theorem d_183_632 : am_code 183 632 = some (.invokevirtual 77, 3) := by decide +kernel
theorem s_183_632 (cl : am_C) (ls : am_Ls) (x0 : Int) (z0 : Int) (N : Nat) (I : Nat → Int → Int) (L : Nat → Int → Int64) : am_go0 cl 183 632 ls [.inl x0, .inr (.inr (some 53)), .inl z0] (am_GS N, am_GR, I, L) = am_bd (cl 178 [.inr (.inr (some 53)), .inl x0] (am_GS N, am_GR, I, L)) (fun v h2 => am_go0 cl 183 635 ls (v.toList ++ [.inl z0]) h2) := am_rV am_m183 d_183_632 am_k10077 rfl am_m178 (gs_53 N) (by decide) (Nat.le_of_ble_eq_true rfl) rfl ls
theorem d_183_635 : am_code 183 635 = some (.if_icmp .eq 127, 3) := by decide +kernel
theorem s_183_635 (cl : am_C) (ls : am_Ls) (x y : Int) (st : List am_V) (h : am_H) : am_go0 cl 183 635 ls (.inl y :: .inl x :: st) h = if x = y then am_go0 cl 183 762 ls st h else am_go0 cl 183 638 ls st h := (am_rJ0 am_m183 d_183_635 (by decide) rfl x y ls st h).trans (am_ifT (am_cmp_eq x y) _ _)
theorem d_183_638 : am_code 183 638 = some (.iconst 0, 1) := by decide +kernel
theorem s_183_638 (cl : am_C) (ls : am_Ls) (st : List am_V) (h : am_H) : am_go0 cl 183 638 ls st h = am_go0 cl 183 639 ls (.inl 0 :: st) h := am_rK am_m183 d_183_638 (by decide) rfl _ _ _
theorem d_183_639 : am_code 183 639 = some (.ireturn, 1) := by decide +kernel
theorem s_183_639 (cl : am_C) (ls : am_Ls) (x : Int) (h : am_H) : am_go0 cl 183 639 ls [.inl x] h = if x = 0 ∨ x = 1 then some (some (.inl x), h) else none := am_rRz am_m183 d_183_639 x ls h
theorem d_183_640 : am_code 183 640 = some (.aload_n 1, 1) := by decide +kernel
theorem s_183_640 (cl : am_C) (a0 a2 a3 : Option am_V) (x : Nat) (st : List am_V) (h : am_H) : am_go0 cl 183 640 [a0, some (.inr (.inr (some x))), a2, a3] st h = am_go0 cl 183 641 [a0, some (.inr (.inr (some x))), a2, a3] (.inr (.inr (some x)) :: st) h := am_r am_m183 d_183_640 rfl
theorem d_183_641 : am_code 183 641 = some (.aload_n 0, 1) := by decide +kernel
theorem s_183_641 (cl : am_C) (a1 a2 a3 : Option am_V) (x : Nat) (st : List am_V) (h : am_H) : am_go0 cl 183 641 [some (.inr (.inr (some x))), a1, a2, a3] st h = am_go0 cl 183 642 [some (.inr (.inr (some x))), a1, a2, a3] (.inr (.inr (some x)) :: st) h := am_r am_m183 d_183_641 rfl
theorem d_183_642 : am_code 183 642 = some (.iload_n 3, 1) := by decide +kernel
theorem s_183_642 (cl : am_C) (a0 a1 a2 : Option am_V) (x : Int) (st : List am_V) (h : am_H) : am_go0 cl 183 642 [a0, a1, a2, some (.inl x)] st h = am_go0 cl 183 643 [a0, a1, a2, some (.inl x)] (.inl x :: st) h := am_r am_m183 d_183_642 rfl
theorem d_183_643 : am_code 183 643 = some (.iconst 1, 1) := by decide +kernel
theorem s_183_643 (cl : am_C) (ls : am_Ls) (st : List am_V) (h : am_H) : am_go0 cl 183 643 ls st h = am_go0 cl 183 644 ls (.inl 1 :: st) h := am_rK am_m183 d_183_643 (by decide) rfl _ _ _
theorem d_183_644 : am_code 183 644 = some (.iadd, 1) := by decide +kernel
theorem s_183_644 (cl : am_C) (ls : am_Ls) (x y : Int) (st : List am_V) (h : am_H) : am_go0 cl 183 644 ls (.inl y :: .inl x :: st) h = am_go0 cl 183 645 ls (.inl (am_wr (x + y)) :: st) h := am_r am_m183 d_183_644 rfl
theorem d_183_645 : am_code 183 645 = some (.iaload, 1) := by decide +kernel
theorem s_183_645 (cl : am_C) (ls : am_Ls) (i : Int) (st : List am_V) (N : Nat) (I : Nat → Int → Int) (L : Nat → Int → Int64) (h0 : 0 ≤ i) (h1 : i < (N : Int)) : am_go0 cl 183 645 ls (.inl i :: .inr (.inr (some 0)) :: st) (am_GS N, am_GR, I, L) = am_go0 cl 183 646 ls (.inl (I 0 i) :: st) (am_GS N, am_GR, I, L) := am_rAs am_m183 d_183_645 rfl rfl ls st i N I L h0 h1
theorem d_183_646 : am_code 183 646 = some (.aload_n 0, 1) := by decide +kernel
theorem s_183_646 (cl : am_C) (a1 a2 a3 : Option am_V) (x : Nat) (st : List am_V) (h : am_H) : am_go0 cl 183 646 [some (.inr (.inr (some x))), a1, a2, a3] st h = am_go0 cl 183 647 [some (.inr (.inr (some x))), a1, a2, a3] (.inr (.inr (some x)) :: st) h := am_r am_m183 d_183_646 rfl
theorem d_183_647 : am_code 183 647 = some (.iload_n 3, 1) := by decide +kernel
theorem s_183_647 (cl : am_C) (a0 a1 a2 : Option am_V) (x : Int) (st : List am_V) (h : am_H) : am_go0 cl 183 647 [a0, a1, a2, some (.inl x)] st h = am_go0 cl 183 648 [a0, a1, a2, some (.inl x)] (.inl x :: st) h := am_r am_m183 d_183_647 rfl
theorem d_183_648 : am_code 183 648 = some (.iconst 2, 1) := by decide +kernel
theorem s_183_648 (cl : am_C) (ls : am_Ls) (st : List am_V) (h : am_H) : am_go0 cl 183 648 ls st h = am_go0 cl 183 649 ls (.inl 2 :: st) h := am_rK am_m183 d_183_648 (by decide) rfl _ _ _
theorem d_183_649 : am_code 183 649 = some (.iadd, 1) := by decide +kernel
theorem s_183_649 (cl : am_C) (ls : am_Ls) (x y : Int) (st : List am_V) (h : am_H) : am_go0 cl 183 649 ls (.inl y :: .inl x :: st) h = am_go0 cl 183 650 ls (.inl (am_wr (x + y)) :: st) h := am_r am_m183 d_183_649 rfl
theorem d_183_650 : am_code 183 650 = some (.iaload, 1) := by decide +kernel
theorem s_183_650 (cl : am_C) (ls : am_Ls) (i : Int) (st : List am_V) (N : Nat) (I : Nat → Int → Int) (L : Nat → Int → Int64) (h0 : 0 ≤ i) (h1 : i < (N : Int)) : am_go0 cl 183 650 ls (.inl i :: .inr (.inr (some 0)) :: st) (am_GS N, am_GR, I, L) = am_go0 cl 183 651 ls (.inl (I 0 i) :: st) (am_GS N, am_GR, I, L) := am_rAs am_m183 d_183_650 rfl rfl ls st i N I L h0 h1
theorem d_183_651 : am_code 183 651 = some (.invokevirtual 78, 3) := by decide +kernel
theorem s_183_651 (cl : am_C) (ls : am_Ls) (x0 : Int) (x1 : Int) (N : Nat) (I : Nat → Int → Int) (L : Nat → Int → Int64) : am_go0 cl 183 651 ls [.inl x1, .inl x0, .inr (.inr (some 1))] (am_GS N, am_GR, I, L) = am_bd (cl 129 [.inr (.inr (some 1)), .inl x0, .inl x1] (am_GS N, am_GR, I, L)) (fun v h2 => am_go0 cl 183 654 ls (v.toList ++ []) h2) := am_rV am_m183 d_183_651 am_k10078 rfl am_m129 (gs_1 N) (by decide) (Nat.le_of_ble_eq_true rfl) rfl ls
theorem d_183_654 : am_code 183 654 = some (.aload_n 2, 1) := by decide +kernel
theorem s_183_654 (cl : am_C) (a0 a1 a3 : Option am_V) (x : Nat) (st : List am_V) (h : am_H) : am_go0 cl 183 654 [a0, a1, some (.inr (.inr (some x))), a3] st h = am_go0 cl 183 655 [a0, a1, some (.inr (.inr (some x))), a3] (.inr (.inr (some x)) :: st) h := am_r am_m183 d_183_654 rfl
theorem d_183_655 : am_code 183 655 = some (.aload_n 0, 1) := by decide +kernel
theorem s_183_655 (cl : am_C) (a1 a2 a3 : Option am_V) (x : Nat) (st : List am_V) (h : am_H) : am_go0 cl 183 655 [some (.inr (.inr (some x))), a1, a2, a3] st h = am_go0 cl 183 656 [some (.inr (.inr (some x))), a1, a2, a3] (.inr (.inr (some x)) :: st) h := am_r am_m183 d_183_655 rfl
theorem d_183_656 : am_code 183 656 = some (.iload_n 3, 1) := by decide +kernel
theorem s_183_656 (cl : am_C) (a0 a1 a2 : Option am_V) (x : Int) (st : List am_V) (h : am_H) : am_go0 cl 183 656 [a0, a1, a2, some (.inl x)] st h = am_go0 cl 183 657 [a0, a1, a2, some (.inl x)] (.inl x :: st) h := am_r am_m183 d_183_656 rfl
theorem d_183_657 : am_code 183 657 = some (.iconst 1, 1) := by decide +kernel
theorem s_183_657 (cl : am_C) (ls : am_Ls) (st : List am_V) (h : am_H) : am_go0 cl 183 657 ls st h = am_go0 cl 183 658 ls (.inl 1 :: st) h := am_rK am_m183 d_183_657 (by decide) rfl _ _ _
theorem d_183_658 : am_code 183 658 = some (.iadd, 1) := by decide +kernel
theorem s_183_658 (cl : am_C) (ls : am_Ls) (x y : Int) (st : List am_V) (h : am_H) : am_go0 cl 183 658 ls (.inl y :: .inl x :: st) h = am_go0 cl 183 659 ls (.inl (am_wr (x + y)) :: st) h := am_r am_m183 d_183_658 rfl
theorem d_183_659 : am_code 183 659 = some (.iaload, 1) := by decide +kernel
theorem s_183_659 (cl : am_C) (ls : am_Ls) (i : Int) (st : List am_V) (N : Nat) (I : Nat → Int → Int) (L : Nat → Int → Int64) (h0 : 0 ≤ i) (h1 : i < (N : Int)) : am_go0 cl 183 659 ls (.inl i :: .inr (.inr (some 0)) :: st) (am_GS N, am_GR, I, L) = am_go0 cl 183 660 ls (.inl (I 0 i) :: st) (am_GS N, am_GR, I, L) := am_rAs am_m183 d_183_659 rfl rfl ls st i N I L h0 h1
theorem d_183_660 : am_code 183 660 = some (.aload_n 0, 1) := by decide +kernel
theorem s_183_660 (cl : am_C) (a1 a2 a3 : Option am_V) (x : Nat) (st : List am_V) (h : am_H) : am_go0 cl 183 660 [some (.inr (.inr (some x))), a1, a2, a3] st h = am_go0 cl 183 661 [some (.inr (.inr (some x))), a1, a2, a3] (.inr (.inr (some x)) :: st) h := am_r am_m183 d_183_660 rfl
theorem d_183_661 : am_code 183 661 = some (.iload_n 3, 1) := by decide +kernel
theorem s_183_661 (cl : am_C) (a0 a1 a2 : Option am_V) (x : Int) (st : List am_V) (h : am_H) : am_go0 cl 183 661 [a0, a1, a2, some (.inl x)] st h = am_go0 cl 183 662 [a0, a1, a2, some (.inl x)] (.inl x :: st) h := am_r am_m183 d_183_661 rfl
theorem d_183_662 : am_code 183 662 = some (.iconst 2, 1) := by decide +kernel
theorem s_183_662 (cl : am_C) (ls : am_Ls) (st : List am_V) (h : am_H) : am_go0 cl 183 662 ls st h = am_go0 cl 183 663 ls (.inl 2 :: st) h := am_rK am_m183 d_183_662 (by decide) rfl _ _ _
theorem d_183_663 : am_code 183 663 = some (.iadd, 1) := by decide +kernel
theorem s_183_663 (cl : am_C) (ls : am_Ls) (x y : Int) (st : List am_V) (h : am_H) : am_go0 cl 183 663 ls (.inl y :: .inl x :: st) h = am_go0 cl 183 664 ls (.inl (am_wr (x + y)) :: st) h := am_r am_m183 d_183_663 rfl
theorem d_183_664 : am_code 183 664 = some (.iaload, 1) := by decide +kernel
theorem s_183_664 (cl : am_C) (ls : am_Ls) (i : Int) (st : List am_V) (N : Nat) (I : Nat → Int → Int) (L : Nat → Int → Int64) (h0 : 0 ≤ i) (h1 : i < (N : Int)) : am_go0 cl 183 664 ls (.inl i :: .inr (.inr (some 0)) :: st) (am_GS N, am_GR, I, L) = am_go0 cl 183 665 ls (.inl (I 0 i) :: st) (am_GS N, am_GR, I, L) := am_rAs am_m183 d_183_664 rfl rfl ls st i N I L h0 h1
theorem d_183_665 : am_code 183 665 = some (.invokevirtual 81, 3) := by decide +kernel
theorem s_183_665 (cl : am_C) (ls : am_Ls) (x0 : Int) (x1 : Int) (z0 : Int) (N : Nat) (I : Nat → Int → Int) (L : Nat → Int → Int64) : am_go0 cl 183 665 ls [.inl x1, .inl x0, .inr (.inr (some 53)), .inl z0] (am_GS N, am_GR, I, L) = am_bd (cl 179 [.inr (.inr (some 53)), .inl x0, .inl x1] (am_GS N, am_GR, I, L)) (fun v h2 => am_go0 cl 183 668 ls (v.toList ++ [.inl z0]) h2) := am_rV am_m183 d_183_665 am_k10081 rfl am_m179 (gs_53 N) (by decide) (Nat.le_of_ble_eq_true rfl) rfl ls
theorem d_183_668 : am_code 183 668 = some (.if_icmp .eq 94, 3) := by decide +kernel
theorem s_183_668 (cl : am_C) (ls : am_Ls) (x y : Int) (st : List am_V) (h : am_H) : am_go0 cl 183 668 ls (.inl y :: .inl x :: st) h = if x = y then am_go0 cl 183 762 ls st h else am_go0 cl 183 671 ls st h := (am_rJ0 am_m183 d_183_668 (by decide) rfl x y ls st h).trans (am_ifT (am_cmp_eq x y) _ _)
theorem d_183_671 : am_code 183 671 = some (.iconst 0, 1) := by decide +kernel
theorem s_183_671 (cl : am_C) (ls : am_Ls) (st : List am_V) (h : am_H) : am_go0 cl 183 671 ls st h = am_go0 cl 183 672 ls (.inl 0 :: st) h := am_rK am_m183 d_183_671 (by decide) rfl _ _ _
theorem d_183_672 : am_code 183 672 = some (.ireturn, 1) := by decide +kernel
theorem s_183_672 (cl : am_C) (ls : am_Ls) (x : Int) (h : am_H) : am_go0 cl 183 672 ls [.inl x] h = if x = 0 ∨ x = 1 then some (some (.inl x), h) else none := am_rRz am_m183 d_183_672 x ls h
theorem d_183_673 : am_code 183 673 = some (.aload_n 1, 1) := by decide +kernel
theorem s_183_673 (cl : am_C) (a0 a2 a3 : Option am_V) (x : Nat) (st : List am_V) (h : am_H) : am_go0 cl 183 673 [a0, some (.inr (.inr (some x))), a2, a3] st h = am_go0 cl 183 674 [a0, some (.inr (.inr (some x))), a2, a3] (.inr (.inr (some x)) :: st) h := am_r am_m183 d_183_673 rfl
theorem d_183_674 : am_code 183 674 = some (.aload_n 0, 1) := by decide +kernel
theorem s_183_674 (cl : am_C) (a1 a2 a3 : Option am_V) (x : Nat) (st : List am_V) (h : am_H) : am_go0 cl 183 674 [some (.inr (.inr (some x))), a1, a2, a3] st h = am_go0 cl 183 675 [some (.inr (.inr (some x))), a1, a2, a3] (.inr (.inr (some x)) :: st) h := am_r am_m183 d_183_674 rfl
theorem d_183_675 : am_code 183 675 = some (.iload_n 3, 1) := by decide +kernel
theorem s_183_675 (cl : am_C) (a0 a1 a2 : Option am_V) (x : Int) (st : List am_V) (h : am_H) : am_go0 cl 183 675 [a0, a1, a2, some (.inl x)] st h = am_go0 cl 183 676 [a0, a1, a2, some (.inl x)] (.inl x :: st) h := am_r am_m183 d_183_675 rfl
theorem d_183_676 : am_code 183 676 = some (.iconst 1, 1) := by decide +kernel
theorem s_183_676 (cl : am_C) (ls : am_Ls) (st : List am_V) (h : am_H) : am_go0 cl 183 676 ls st h = am_go0 cl 183 677 ls (.inl 1 :: st) h := am_rK am_m183 d_183_676 (by decide) rfl _ _ _
theorem d_183_677 : am_code 183 677 = some (.iadd, 1) := by decide +kernel
theorem s_183_677 (cl : am_C) (ls : am_Ls) (x y : Int) (st : List am_V) (h : am_H) : am_go0 cl 183 677 ls (.inl y :: .inl x :: st) h = am_go0 cl 183 678 ls (.inl (am_wr (x + y)) :: st) h := am_r am_m183 d_183_677 rfl
theorem d_183_678 : am_code 183 678 = some (.iaload, 1) := by decide +kernel
theorem s_183_678 (cl : am_C) (ls : am_Ls) (i : Int) (st : List am_V) (N : Nat) (I : Nat → Int → Int) (L : Nat → Int → Int64) (h0 : 0 ≤ i) (h1 : i < (N : Int)) : am_go0 cl 183 678 ls (.inl i :: .inr (.inr (some 0)) :: st) (am_GS N, am_GR, I, L) = am_go0 cl 183 679 ls (.inl (I 0 i) :: st) (am_GS N, am_GR, I, L) := am_rAs am_m183 d_183_678 rfl rfl ls st i N I L h0 h1
theorem d_183_679 : am_code 183 679 = some (.aload_n 0, 1) := by decide +kernel
theorem s_183_679 (cl : am_C) (a1 a2 a3 : Option am_V) (x : Nat) (st : List am_V) (h : am_H) : am_go0 cl 183 679 [some (.inr (.inr (some x))), a1, a2, a3] st h = am_go0 cl 183 680 [some (.inr (.inr (some x))), a1, a2, a3] (.inr (.inr (some x)) :: st) h := am_r am_m183 d_183_679 rfl
theorem d_183_680 : am_code 183 680 = some (.iload_n 3, 1) := by decide +kernel
theorem s_183_680 (cl : am_C) (a0 a1 a2 : Option am_V) (x : Int) (st : List am_V) (h : am_H) : am_go0 cl 183 680 [a0, a1, a2, some (.inl x)] st h = am_go0 cl 183 681 [a0, a1, a2, some (.inl x)] (.inl x :: st) h := am_r am_m183 d_183_680 rfl
theorem d_183_681 : am_code 183 681 = some (.iconst 2, 1) := by decide +kernel
theorem s_183_681 (cl : am_C) (ls : am_Ls) (st : List am_V) (h : am_H) : am_go0 cl 183 681 ls st h = am_go0 cl 183 682 ls (.inl 2 :: st) h := am_rK am_m183 d_183_681 (by decide) rfl _ _ _
theorem d_183_682 : am_code 183 682 = some (.iadd, 1) := by decide +kernel
theorem s_183_682 (cl : am_C) (ls : am_Ls) (x y : Int) (st : List am_V) (h : am_H) : am_go0 cl 183 682 ls (.inl y :: .inl x :: st) h = am_go0 cl 183 683 ls (.inl (am_wr (x + y)) :: st) h := am_r am_m183 d_183_682 rfl
theorem d_183_683 : am_code 183 683 = some (.iaload, 1) := by decide +kernel
theorem s_183_683 (cl : am_C) (ls : am_Ls) (i : Int) (st : List am_V) (N : Nat) (I : Nat → Int → Int) (L : Nat → Int → Int64) (h0 : 0 ≤ i) (h1 : i < (N : Int)) : am_go0 cl 183 683 ls (.inl i :: .inr (.inr (some 0)) :: st) (am_GS N, am_GR, I, L) = am_go0 cl 183 684 ls (.inl (I 0 i) :: st) (am_GS N, am_GR, I, L) := am_rAs am_m183 d_183_683 rfl rfl ls st i N I L h0 h1
theorem d_183_684 : am_code 183 684 = some (.invokevirtual 82, 3) := by decide +kernel
theorem s_183_684 (cl : am_C) (ls : am_Ls) (x0 : Int) (x1 : Int) (N : Nat) (I : Nat → Int → Int) (L : Nat → Int → Int64) : am_go0 cl 183 684 ls [.inl x1, .inl x0, .inr (.inr (some 1))] (am_GS N, am_GR, I, L) = am_bd (cl 130 [.inr (.inr (some 1)), .inl x0, .inl x1] (am_GS N, am_GR, I, L)) (fun v h2 => am_go0 cl 183 687 ls (v.toList ++ []) h2) := am_rV am_m183 d_183_684 am_k10082 rfl am_m130 (gs_1 N) (by decide) (Nat.le_of_ble_eq_true rfl) rfl ls
theorem d_183_687 : am_code 183 687 = some (.aload_n 2, 1) := by decide +kernel
theorem s_183_687 (cl : am_C) (a0 a1 a3 : Option am_V) (x : Nat) (st : List am_V) (h : am_H) : am_go0 cl 183 687 [a0, a1, some (.inr (.inr (some x))), a3] st h = am_go0 cl 183 688 [a0, a1, some (.inr (.inr (some x))), a3] (.inr (.inr (some x)) :: st) h := am_r am_m183 d_183_687 rfl
theorem d_183_688 : am_code 183 688 = some (.aload_n 0, 1) := by decide +kernel
theorem s_183_688 (cl : am_C) (a1 a2 a3 : Option am_V) (x : Nat) (st : List am_V) (h : am_H) : am_go0 cl 183 688 [some (.inr (.inr (some x))), a1, a2, a3] st h = am_go0 cl 183 689 [some (.inr (.inr (some x))), a1, a2, a3] (.inr (.inr (some x)) :: st) h := am_r am_m183 d_183_688 rfl
theorem d_183_689 : am_code 183 689 = some (.iload_n 3, 1) := by decide +kernel
theorem s_183_689 (cl : am_C) (a0 a1 a2 : Option am_V) (x : Int) (st : List am_V) (h : am_H) : am_go0 cl 183 689 [a0, a1, a2, some (.inl x)] st h = am_go0 cl 183 690 [a0, a1, a2, some (.inl x)] (.inl x :: st) h := am_r am_m183 d_183_689 rfl
theorem d_183_690 : am_code 183 690 = some (.iconst 1, 1) := by decide +kernel
theorem s_183_690 (cl : am_C) (ls : am_Ls) (st : List am_V) (h : am_H) : am_go0 cl 183 690 ls st h = am_go0 cl 183 691 ls (.inl 1 :: st) h := am_rK am_m183 d_183_690 (by decide) rfl _ _ _
theorem d_183_691 : am_code 183 691 = some (.iadd, 1) := by decide +kernel
theorem s_183_691 (cl : am_C) (ls : am_Ls) (x y : Int) (st : List am_V) (h : am_H) : am_go0 cl 183 691 ls (.inl y :: .inl x :: st) h = am_go0 cl 183 692 ls (.inl (am_wr (x + y)) :: st) h := am_r am_m183 d_183_691 rfl
theorem d_183_692 : am_code 183 692 = some (.iaload, 1) := by decide +kernel
theorem s_183_692 (cl : am_C) (ls : am_Ls) (i : Int) (st : List am_V) (N : Nat) (I : Nat → Int → Int) (L : Nat → Int → Int64) (h0 : 0 ≤ i) (h1 : i < (N : Int)) : am_go0 cl 183 692 ls (.inl i :: .inr (.inr (some 0)) :: st) (am_GS N, am_GR, I, L) = am_go0 cl 183 693 ls (.inl (I 0 i) :: st) (am_GS N, am_GR, I, L) := am_rAs am_m183 d_183_692 rfl rfl ls st i N I L h0 h1
theorem d_183_693 : am_code 183 693 = some (.aload_n 0, 1) := by decide +kernel
theorem s_183_693 (cl : am_C) (a1 a2 a3 : Option am_V) (x : Nat) (st : List am_V) (h : am_H) : am_go0 cl 183 693 [some (.inr (.inr (some x))), a1, a2, a3] st h = am_go0 cl 183 694 [some (.inr (.inr (some x))), a1, a2, a3] (.inr (.inr (some x)) :: st) h := am_r am_m183 d_183_693 rfl
theorem d_183_694 : am_code 183 694 = some (.iload_n 3, 1) := by decide +kernel
theorem s_183_694 (cl : am_C) (a0 a1 a2 : Option am_V) (x : Int) (st : List am_V) (h : am_H) : am_go0 cl 183 694 [a0, a1, a2, some (.inl x)] st h = am_go0 cl 183 695 [a0, a1, a2, some (.inl x)] (.inl x :: st) h := am_r am_m183 d_183_694 rfl
theorem d_183_695 : am_code 183 695 = some (.iconst 2, 1) := by decide +kernel
theorem s_183_695 (cl : am_C) (ls : am_Ls) (st : List am_V) (h : am_H) : am_go0 cl 183 695 ls st h = am_go0 cl 183 696 ls (.inl 2 :: st) h := am_rK am_m183 d_183_695 (by decide) rfl _ _ _
theorem d_183_696 : am_code 183 696 = some (.iadd, 1) := by decide +kernel
theorem s_183_696 (cl : am_C) (ls : am_Ls) (x y : Int) (st : List am_V) (h : am_H) : am_go0 cl 183 696 ls (.inl y :: .inl x :: st) h = am_go0 cl 183 697 ls (.inl (am_wr (x + y)) :: st) h := am_r am_m183 d_183_696 rfl
theorem d_183_697 : am_code 183 697 = some (.iaload, 1) := by decide +kernel
theorem s_183_697 (cl : am_C) (ls : am_Ls) (i : Int) (st : List am_V) (N : Nat) (I : Nat → Int → Int) (L : Nat → Int → Int64) (h0 : 0 ≤ i) (h1 : i < (N : Int)) : am_go0 cl 183 697 ls (.inl i :: .inr (.inr (some 0)) :: st) (am_GS N, am_GR, I, L) = am_go0 cl 183 698 ls (.inl (I 0 i) :: st) (am_GS N, am_GR, I, L) := am_rAs am_m183 d_183_697 rfl rfl ls st i N I L h0 h1
theorem d_183_698 : am_code 183 698 = some (.invokevirtual 85, 3) := by decide +kernel
theorem s_183_698 (cl : am_C) (ls : am_Ls) (x0 : Int) (x1 : Int) (z0 : Int) (N : Nat) (I : Nat → Int → Int) (L : Nat → Int → Int64) : am_go0 cl 183 698 ls [.inl x1, .inl x0, .inr (.inr (some 53)), .inl z0] (am_GS N, am_GR, I, L) = am_bd (cl 180 [.inr (.inr (some 53)), .inl x0, .inl x1] (am_GS N, am_GR, I, L)) (fun v h2 => am_go0 cl 183 701 ls (v.toList ++ [.inl z0]) h2) := am_rV am_m183 d_183_698 am_k10085 rfl am_m180 (gs_53 N) (by decide) (Nat.le_of_ble_eq_true rfl) rfl ls
theorem d_183_701 : am_code 183 701 = some (.if_icmp .eq 61, 3) := by decide +kernel
theorem s_183_701 (cl : am_C) (ls : am_Ls) (x y : Int) (st : List am_V) (h : am_H) : am_go0 cl 183 701 ls (.inl y :: .inl x :: st) h = if x = y then am_go0 cl 183 762 ls st h else am_go0 cl 183 704 ls st h := (am_rJ0 am_m183 d_183_701 (by decide) rfl x y ls st h).trans (am_ifT (am_cmp_eq x y) _ _)
theorem d_183_704 : am_code 183 704 = some (.iconst 0, 1) := by decide +kernel
theorem s_183_704 (cl : am_C) (ls : am_Ls) (st : List am_V) (h : am_H) : am_go0 cl 183 704 ls st h = am_go0 cl 183 705 ls (.inl 0 :: st) h := am_rK am_m183 d_183_704 (by decide) rfl _ _ _
theorem d_183_705 : am_code 183 705 = some (.ireturn, 1) := by decide +kernel
theorem s_183_705 (cl : am_C) (ls : am_Ls) (x : Int) (h : am_H) : am_go0 cl 183 705 ls [.inl x] h = if x = 0 ∨ x = 1 then some (some (.inl x), h) else none := am_rRz am_m183 d_183_705 x ls h
theorem d_183_706 : am_code 183 706 = some (.aload_n 1, 1) := by decide +kernel
theorem s_183_706 (cl : am_C) (a0 a2 a3 : Option am_V) (x : Nat) (st : List am_V) (h : am_H) : am_go0 cl 183 706 [a0, some (.inr (.inr (some x))), a2, a3] st h = am_go0 cl 183 707 [a0, some (.inr (.inr (some x))), a2, a3] (.inr (.inr (some x)) :: st) h := am_r am_m183 d_183_706 rfl
theorem d_183_707 : am_code 183 707 = some (.aload_n 0, 1) := by decide +kernel
theorem s_183_707 (cl : am_C) (a1 a2 a3 : Option am_V) (x : Nat) (st : List am_V) (h : am_H) : am_go0 cl 183 707 [some (.inr (.inr (some x))), a1, a2, a3] st h = am_go0 cl 183 708 [some (.inr (.inr (some x))), a1, a2, a3] (.inr (.inr (some x)) :: st) h := am_r am_m183 d_183_707 rfl
theorem d_183_708 : am_code 183 708 = some (.iload_n 3, 1) := by decide +kernel
theorem s_183_708 (cl : am_C) (a0 a1 a2 : Option am_V) (x : Int) (st : List am_V) (h : am_H) : am_go0 cl 183 708 [a0, a1, a2, some (.inl x)] st h = am_go0 cl 183 709 [a0, a1, a2, some (.inl x)] (.inl x :: st) h := am_r am_m183 d_183_708 rfl
theorem d_183_709 : am_code 183 709 = some (.iconst 1, 1) := by decide +kernel
theorem s_183_709 (cl : am_C) (ls : am_Ls) (st : List am_V) (h : am_H) : am_go0 cl 183 709 ls st h = am_go0 cl 183 710 ls (.inl 1 :: st) h := am_rK am_m183 d_183_709 (by decide) rfl _ _ _
theorem d_183_710 : am_code 183 710 = some (.iadd, 1) := by decide +kernel
theorem s_183_710 (cl : am_C) (ls : am_Ls) (x y : Int) (st : List am_V) (h : am_H) : am_go0 cl 183 710 ls (.inl y :: .inl x :: st) h = am_go0 cl 183 711 ls (.inl (am_wr (x + y)) :: st) h := am_r am_m183 d_183_710 rfl
theorem d_183_711 : am_code 183 711 = some (.iaload, 1) := by decide +kernel
theorem s_183_711 (cl : am_C) (ls : am_Ls) (i : Int) (st : List am_V) (N : Nat) (I : Nat → Int → Int) (L : Nat → Int → Int64) (h0 : 0 ≤ i) (h1 : i < (N : Int)) : am_go0 cl 183 711 ls (.inl i :: .inr (.inr (some 0)) :: st) (am_GS N, am_GR, I, L) = am_go0 cl 183 712 ls (.inl (I 0 i) :: st) (am_GS N, am_GR, I, L) := am_rAs am_m183 d_183_711 rfl rfl ls st i N I L h0 h1
theorem d_183_712 : am_code 183 712 = some (.aload_n 0, 1) := by decide +kernel
theorem s_183_712 (cl : am_C) (a1 a2 a3 : Option am_V) (x : Nat) (st : List am_V) (h : am_H) : am_go0 cl 183 712 [some (.inr (.inr (some x))), a1, a2, a3] st h = am_go0 cl 183 713 [some (.inr (.inr (some x))), a1, a2, a3] (.inr (.inr (some x)) :: st) h := am_r am_m183 d_183_712 rfl
theorem d_183_713 : am_code 183 713 = some (.iload_n 3, 1) := by decide +kernel
theorem s_183_713 (cl : am_C) (a0 a1 a2 : Option am_V) (x : Int) (st : List am_V) (h : am_H) : am_go0 cl 183 713 [a0, a1, a2, some (.inl x)] st h = am_go0 cl 183 714 [a0, a1, a2, some (.inl x)] (.inl x :: st) h := am_r am_m183 d_183_713 rfl
theorem d_183_714 : am_code 183 714 = some (.iconst 2, 1) := by decide +kernel
theorem s_183_714 (cl : am_C) (ls : am_Ls) (st : List am_V) (h : am_H) : am_go0 cl 183 714 ls st h = am_go0 cl 183 715 ls (.inl 2 :: st) h := am_rK am_m183 d_183_714 (by decide) rfl _ _ _
theorem d_183_715 : am_code 183 715 = some (.iadd, 1) := by decide +kernel
theorem s_183_715 (cl : am_C) (ls : am_Ls) (x y : Int) (st : List am_V) (h : am_H) : am_go0 cl 183 715 ls (.inl y :: .inl x :: st) h = am_go0 cl 183 716 ls (.inl (am_wr (x + y)) :: st) h := am_r am_m183 d_183_715 rfl
theorem d_183_716 : am_code 183 716 = some (.iaload, 1) := by decide +kernel
theorem s_183_716 (cl : am_C) (ls : am_Ls) (i : Int) (st : List am_V) (N : Nat) (I : Nat → Int → Int) (L : Nat → Int → Int64) (h0 : 0 ≤ i) (h1 : i < (N : Int)) : am_go0 cl 183 716 ls (.inl i :: .inr (.inr (some 0)) :: st) (am_GS N, am_GR, I, L) = am_go0 cl 183 717 ls (.inl (I 0 i) :: st) (am_GS N, am_GR, I, L) := am_rAs am_m183 d_183_716 rfl rfl ls st i N I L h0 h1
theorem d_183_717 : am_code 183 717 = some (.invokevirtual 86, 3) := by decide +kernel
theorem s_183_717 (cl : am_C) (ls : am_Ls) (x0 : Int) (x1 : Int) (N : Nat) (I : Nat → Int → Int) (L : Nat → Int → Int64) : am_go0 cl 183 717 ls [.inl x1, .inl x0, .inr (.inr (some 1))] (am_GS N, am_GR, I, L) = am_bd (cl 131 [.inr (.inr (some 1)), .inl x0, .inl x1] (am_GS N, am_GR, I, L)) (fun v h2 => am_go0 cl 183 720 ls (v.toList ++ []) h2) := am_rV am_m183 d_183_717 am_k10086 rfl am_m131 (gs_1 N) (by decide) (Nat.le_of_ble_eq_true rfl) rfl ls
theorem d_183_720 : am_code 183 720 = some (.aload_n 2, 1) := by decide +kernel
theorem s_183_720 (cl : am_C) (a0 a1 a3 : Option am_V) (x : Nat) (st : List am_V) (h : am_H) : am_go0 cl 183 720 [a0, a1, some (.inr (.inr (some x))), a3] st h = am_go0 cl 183 721 [a0, a1, some (.inr (.inr (some x))), a3] (.inr (.inr (some x)) :: st) h := am_r am_m183 d_183_720 rfl
theorem d_183_721 : am_code 183 721 = some (.aload_n 0, 1) := by decide +kernel
theorem s_183_721 (cl : am_C) (a1 a2 a3 : Option am_V) (x : Nat) (st : List am_V) (h : am_H) : am_go0 cl 183 721 [some (.inr (.inr (some x))), a1, a2, a3] st h = am_go0 cl 183 722 [some (.inr (.inr (some x))), a1, a2, a3] (.inr (.inr (some x)) :: st) h := am_r am_m183 d_183_721 rfl
theorem d_183_722 : am_code 183 722 = some (.iload_n 3, 1) := by decide +kernel
theorem s_183_722 (cl : am_C) (a0 a1 a2 : Option am_V) (x : Int) (st : List am_V) (h : am_H) : am_go0 cl 183 722 [a0, a1, a2, some (.inl x)] st h = am_go0 cl 183 723 [a0, a1, a2, some (.inl x)] (.inl x :: st) h := am_r am_m183 d_183_722 rfl
theorem d_183_723 : am_code 183 723 = some (.iconst 1, 1) := by decide +kernel
theorem s_183_723 (cl : am_C) (ls : am_Ls) (st : List am_V) (h : am_H) : am_go0 cl 183 723 ls st h = am_go0 cl 183 724 ls (.inl 1 :: st) h := am_rK am_m183 d_183_723 (by decide) rfl _ _ _
theorem d_183_724 : am_code 183 724 = some (.iadd, 1) := by decide +kernel
theorem s_183_724 (cl : am_C) (ls : am_Ls) (x y : Int) (st : List am_V) (h : am_H) : am_go0 cl 183 724 ls (.inl y :: .inl x :: st) h = am_go0 cl 183 725 ls (.inl (am_wr (x + y)) :: st) h := am_r am_m183 d_183_724 rfl
theorem d_183_725 : am_code 183 725 = some (.iaload, 1) := by decide +kernel
theorem s_183_725 (cl : am_C) (ls : am_Ls) (i : Int) (st : List am_V) (N : Nat) (I : Nat → Int → Int) (L : Nat → Int → Int64) (h0 : 0 ≤ i) (h1 : i < (N : Int)) : am_go0 cl 183 725 ls (.inl i :: .inr (.inr (some 0)) :: st) (am_GS N, am_GR, I, L) = am_go0 cl 183 726 ls (.inl (I 0 i) :: st) (am_GS N, am_GR, I, L) := am_rAs am_m183 d_183_725 rfl rfl ls st i N I L h0 h1
theorem d_183_726 : am_code 183 726 = some (.aload_n 0, 1) := by decide +kernel
theorem s_183_726 (cl : am_C) (a1 a2 a3 : Option am_V) (x : Nat) (st : List am_V) (h : am_H) : am_go0 cl 183 726 [some (.inr (.inr (some x))), a1, a2, a3] st h = am_go0 cl 183 727 [some (.inr (.inr (some x))), a1, a2, a3] (.inr (.inr (some x)) :: st) h := am_r am_m183 d_183_726 rfl
theorem d_183_727 : am_code 183 727 = some (.iload_n 3, 1) := by decide +kernel
theorem s_183_727 (cl : am_C) (a0 a1 a2 : Option am_V) (x : Int) (st : List am_V) (h : am_H) : am_go0 cl 183 727 [a0, a1, a2, some (.inl x)] st h = am_go0 cl 183 728 [a0, a1, a2, some (.inl x)] (.inl x :: st) h := am_r am_m183 d_183_727 rfl
theorem d_183_728 : am_code 183 728 = some (.iconst 2, 1) := by decide +kernel
theorem s_183_728 (cl : am_C) (ls : am_Ls) (st : List am_V) (h : am_H) : am_go0 cl 183 728 ls st h = am_go0 cl 183 729 ls (.inl 2 :: st) h := am_rK am_m183 d_183_728 (by decide) rfl _ _ _
theorem d_183_729 : am_code 183 729 = some (.iadd, 1) := by decide +kernel
theorem s_183_729 (cl : am_C) (ls : am_Ls) (x y : Int) (st : List am_V) (h : am_H) : am_go0 cl 183 729 ls (.inl y :: .inl x :: st) h = am_go0 cl 183 730 ls (.inl (am_wr (x + y)) :: st) h := am_r am_m183 d_183_729 rfl
theorem d_183_730 : am_code 183 730 = some (.iaload, 1) := by decide +kernel
theorem s_183_730 (cl : am_C) (ls : am_Ls) (i : Int) (st : List am_V) (N : Nat) (I : Nat → Int → Int) (L : Nat → Int → Int64) (h0 : 0 ≤ i) (h1 : i < (N : Int)) : am_go0 cl 183 730 ls (.inl i :: .inr (.inr (some 0)) :: st) (am_GS N, am_GR, I, L) = am_go0 cl 183 731 ls (.inl (I 0 i) :: st) (am_GS N, am_GR, I, L) := am_rAs am_m183 d_183_730 rfl rfl ls st i N I L h0 h1
theorem d_183_731 : am_code 183 731 = some (.invokevirtual 89, 3) := by decide +kernel
theorem s_183_731 (cl : am_C) (ls : am_Ls) (x0 : Int) (x1 : Int) (z0 : Int) (N : Nat) (I : Nat → Int → Int) (L : Nat → Int → Int64) : am_go0 cl 183 731 ls [.inl x1, .inl x0, .inr (.inr (some 53)), .inl z0] (am_GS N, am_GR, I, L) = am_bd (cl 139 [.inr (.inr (some 53)), .inl x0, .inl x1] (am_GS N, am_GR, I, L)) (fun v h2 => am_go0 cl 183 734 ls (v.toList ++ [.inl z0]) h2) := am_rV am_m183 d_183_731 am_k10089 rfl am_m139 (gs_53 N) (by decide) (Nat.le_of_ble_eq_true rfl) rfl ls
theorem d_183_734 : am_code 183 734 = some (.if_icmp .eq 28, 3) := by decide +kernel
theorem s_183_734 (cl : am_C) (ls : am_Ls) (x y : Int) (st : List am_V) (h : am_H) : am_go0 cl 183 734 ls (.inl y :: .inl x :: st) h = if x = y then am_go0 cl 183 762 ls st h else am_go0 cl 183 737 ls st h := (am_rJ0 am_m183 d_183_734 (by decide) rfl x y ls st h).trans (am_ifT (am_cmp_eq x y) _ _)
theorem d_183_737 : am_code 183 737 = some (.iconst 0, 1) := by decide +kernel
theorem s_183_737 (cl : am_C) (ls : am_Ls) (st : List am_V) (h : am_H) : am_go0 cl 183 737 ls st h = am_go0 cl 183 738 ls (.inl 0 :: st) h := am_rK am_m183 d_183_737 (by decide) rfl _ _ _
theorem d_183_738 : am_code 183 738 = some (.ireturn, 1) := by decide +kernel
theorem s_183_738 (cl : am_C) (ls : am_Ls) (x : Int) (h : am_H) : am_go0 cl 183 738 ls [.inl x] h = if x = 0 ∨ x = 1 then some (some (.inl x), h) else none := am_rRz am_m183 d_183_738 x ls h
theorem d_183_739 : am_code 183 739 = some (.aload_n 1, 1) := by decide +kernel
theorem s_183_739 (cl : am_C) (a0 a2 a3 : Option am_V) (x : Nat) (st : List am_V) (h : am_H) : am_go0 cl 183 739 [a0, some (.inr (.inr (some x))), a2, a3] st h = am_go0 cl 183 740 [a0, some (.inr (.inr (some x))), a2, a3] (.inr (.inr (some x)) :: st) h := am_r am_m183 d_183_739 rfl
theorem d_183_740 : am_code 183 740 = some (.aload_n 0, 1) := by decide +kernel
theorem s_183_740 (cl : am_C) (a1 a2 a3 : Option am_V) (x : Nat) (st : List am_V) (h : am_H) : am_go0 cl 183 740 [some (.inr (.inr (some x))), a1, a2, a3] st h = am_go0 cl 183 741 [some (.inr (.inr (some x))), a1, a2, a3] (.inr (.inr (some x)) :: st) h := am_r am_m183 d_183_740 rfl
theorem d_183_741 : am_code 183 741 = some (.iload_n 3, 1) := by decide +kernel
theorem s_183_741 (cl : am_C) (a0 a1 a2 : Option am_V) (x : Int) (st : List am_V) (h : am_H) : am_go0 cl 183 741 [a0, a1, a2, some (.inl x)] st h = am_go0 cl 183 742 [a0, a1, a2, some (.inl x)] (.inl x :: st) h := am_r am_m183 d_183_741 rfl
theorem d_183_742 : am_code 183 742 = some (.iconst 1, 1) := by decide +kernel
theorem s_183_742 (cl : am_C) (ls : am_Ls) (st : List am_V) (h : am_H) : am_go0 cl 183 742 ls st h = am_go0 cl 183 743 ls (.inl 1 :: st) h := am_rK am_m183 d_183_742 (by decide) rfl _ _ _
theorem d_183_743 : am_code 183 743 = some (.iadd, 1) := by decide +kernel
theorem s_183_743 (cl : am_C) (ls : am_Ls) (x y : Int) (st : List am_V) (h : am_H) : am_go0 cl 183 743 ls (.inl y :: .inl x :: st) h = am_go0 cl 183 744 ls (.inl (am_wr (x + y)) :: st) h := am_r am_m183 d_183_743 rfl
theorem d_183_744 : am_code 183 744 = some (.iaload, 1) := by decide +kernel
theorem s_183_744 (cl : am_C) (ls : am_Ls) (i : Int) (st : List am_V) (N : Nat) (I : Nat → Int → Int) (L : Nat → Int → Int64) (h0 : 0 ≤ i) (h1 : i < (N : Int)) : am_go0 cl 183 744 ls (.inl i :: .inr (.inr (some 0)) :: st) (am_GS N, am_GR, I, L) = am_go0 cl 183 745 ls (.inl (I 0 i) :: st) (am_GS N, am_GR, I, L) := am_rAs am_m183 d_183_744 rfl rfl ls st i N I L h0 h1
theorem d_183_745 : am_code 183 745 = some (.invokevirtual 90, 3) := by decide +kernel
theorem s_183_745 (cl : am_C) (ls : am_Ls) (x0 : Int) (N : Nat) (I : Nat → Int → Int) (L : Nat → Int → Int64) : am_go0 cl 183 745 ls [.inl x0, .inr (.inr (some 1))] (am_GS N, am_GR, I, L) = am_bd (cl 132 [.inr (.inr (some 1)), .inl x0] (am_GS N, am_GR, I, L)) (fun v h2 => am_go0 cl 183 748 ls (v.toList ++ []) h2) := am_rV am_m183 d_183_745 am_k10090 rfl am_m132 (gs_1 N) (by decide) (Nat.le_of_ble_eq_true rfl) rfl ls
theorem d_183_748 : am_code 183 748 = some (.aload_n 2, 1) := by decide +kernel
theorem s_183_748 (cl : am_C) (a0 a1 a3 : Option am_V) (x : Nat) (st : List am_V) (h : am_H) : am_go0 cl 183 748 [a0, a1, some (.inr (.inr (some x))), a3] st h = am_go0 cl 183 749 [a0, a1, some (.inr (.inr (some x))), a3] (.inr (.inr (some x)) :: st) h := am_r am_m183 d_183_748 rfl
theorem d_183_749 : am_code 183 749 = some (.aload_n 0, 1) := by decide +kernel
theorem s_183_749 (cl : am_C) (a1 a2 a3 : Option am_V) (x : Nat) (st : List am_V) (h : am_H) : am_go0 cl 183 749 [some (.inr (.inr (some x))), a1, a2, a3] st h = am_go0 cl 183 750 [some (.inr (.inr (some x))), a1, a2, a3] (.inr (.inr (some x)) :: st) h := am_r am_m183 d_183_749 rfl
theorem d_183_750 : am_code 183 750 = some (.iload_n 3, 1) := by decide +kernel
theorem s_183_750 (cl : am_C) (a0 a1 a2 : Option am_V) (x : Int) (st : List am_V) (h : am_H) : am_go0 cl 183 750 [a0, a1, a2, some (.inl x)] st h = am_go0 cl 183 751 [a0, a1, a2, some (.inl x)] (.inl x :: st) h := am_r am_m183 d_183_750 rfl
theorem d_183_751 : am_code 183 751 = some (.iconst 1, 1) := by decide +kernel
theorem s_183_751 (cl : am_C) (ls : am_Ls) (st : List am_V) (h : am_H) : am_go0 cl 183 751 ls st h = am_go0 cl 183 752 ls (.inl 1 :: st) h := am_rK am_m183 d_183_751 (by decide) rfl _ _ _
theorem d_183_752 : am_code 183 752 = some (.iadd, 1) := by decide +kernel
theorem s_183_752 (cl : am_C) (ls : am_Ls) (x y : Int) (st : List am_V) (h : am_H) : am_go0 cl 183 752 ls (.inl y :: .inl x :: st) h = am_go0 cl 183 753 ls (.inl (am_wr (x + y)) :: st) h := am_r am_m183 d_183_752 rfl
theorem d_183_753 : am_code 183 753 = some (.iaload, 1) := by decide +kernel
theorem s_183_753 (cl : am_C) (ls : am_Ls) (i : Int) (st : List am_V) (N : Nat) (I : Nat → Int → Int) (L : Nat → Int → Int64) (h0 : 0 ≤ i) (h1 : i < (N : Int)) : am_go0 cl 183 753 ls (.inl i :: .inr (.inr (some 0)) :: st) (am_GS N, am_GR, I, L) = am_go0 cl 183 754 ls (.inl (I 0 i) :: st) (am_GS N, am_GR, I, L) := am_rAs am_m183 d_183_753 rfl rfl ls st i N I L h0 h1
theorem d_183_754 : am_code 183 754 = some (.invokevirtual 93, 3) := by decide +kernel
theorem s_183_754 (cl : am_C) (ls : am_Ls) (x0 : Int) (z0 : Int) (N : Nat) (I : Nat → Int → Int) (L : Nat → Int → Int64) : am_go0 cl 183 754 ls [.inl x0, .inr (.inr (some 53)), .inl z0] (am_GS N, am_GR, I, L) = am_bd (cl 181 [.inr (.inr (some 53)), .inl x0] (am_GS N, am_GR, I, L)) (fun v h2 => am_go0 cl 183 757 ls (v.toList ++ [.inl z0]) h2) := am_rV am_m183 d_183_754 am_k10093 rfl am_m181 (gs_53 N) (by decide) (Nat.le_of_ble_eq_true rfl) rfl ls
theorem d_183_757 : am_code 183 757 = some (.if_icmp .eq 5, 3) := by decide +kernel
theorem s_183_757 (cl : am_C) (ls : am_Ls) (x y : Int) (st : List am_V) (h : am_H) : am_go0 cl 183 757 ls (.inl y :: .inl x :: st) h = if x = y then am_go0 cl 183 762 ls st h else am_go0 cl 183 760 ls st h := (am_rJ0 am_m183 d_183_757 (by decide) rfl x y ls st h).trans (am_ifT (am_cmp_eq x y) _ _)
theorem d_183_760 : am_code 183 760 = some (.iconst 0, 1) := by decide +kernel
theorem s_183_760 (cl : am_C) (ls : am_Ls) (st : List am_V) (h : am_H) : am_go0 cl 183 760 ls st h = am_go0 cl 183 761 ls (.inl 0 :: st) h := am_rK am_m183 d_183_760 (by decide) rfl _ _ _
theorem d_183_761 : am_code 183 761 = some (.ireturn, 1) := by decide +kernel
theorem s_183_761 (cl : am_C) (ls : am_Ls) (x : Int) (h : am_H) : am_go0 cl 183 761 ls [.inl x] h = if x = 0 ∨ x = 1 then some (some (.inl x), h) else none := am_rRz am_m183 d_183_761 x ls h
theorem d_183_762 : am_code 183 762 = some (.iinc 3 5, 3) := by decide +kernel
theorem s_183_762 (cl : am_C) (a0 a1 a2 : Option am_V) (x : Int) (st : List am_V) (h : am_H) : am_go0 cl 183 762 [a0, a1, a2, some (.inl x)] st h = am_go0 cl 183 765 [a0, a1, am_c1 a2, some (.inl (am_wr (x + 5)))] st h := am_r am_m183 d_183_762 rfl
theorem d_183_765 : am_code 183 765 = some (.goto (-747), 3) := by decide +kernel
theorem s_183_765 (cl : am_C) (ls : am_Ls) (st : List am_V) (h : am_H) : am_go0 cl 183 765 ls st h = am_go0 cl 183 18 ls st h := am_rGo am_m183 d_183_765 (by decide) _ _ _
theorem d_183_768 : am_code 183 768 = some (.iconst 1, 1) := by decide +kernel
theorem s_183_768 (cl : am_C) (ls : am_Ls) (st : List am_V) (h : am_H) : am_go0 cl 183 768 ls st h = am_go0 cl 183 769 ls (.inl 1 :: st) h := am_rK am_m183 d_183_768 (by decide) rfl _ _ _
theorem d_183_769 : am_code 183 769 = some (.ireturn, 1) := by decide +kernel
theorem s_183_769 (cl : am_C) (ls : am_Ls) (x : Int) (h : am_H) : am_go0 cl 183 769 ls [.inl x] h = if x = 0 ∨ x = 1 then some (some (.inl x), h) else none := am_rRz am_m183 d_183_769 x ls h
