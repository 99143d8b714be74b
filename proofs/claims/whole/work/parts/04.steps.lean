/-! How a run goes on at one instruction: equations, for rows that a program writes. -/
theorem am_r {cl : am_C} {j pc : Nat} {m : am_M} {i : Instr} {n : Nat} {ls ls' : am_Ls} {st st' : List am_V} {h h' : am_H} {pc' : Nat} (hm : am_ml[j]? = some m) (hd : am_code j pc = some (i, n)) (hx : am_next m i n pc ls st h = some (.inl (pc', ls', st', h'))) : am_go0 cl j pc ls st h = am_go0 cl j pc' ls' st' h' := by
  rw [am_go0_eq, am_one, hm, hd]
  simp only [hx, am_cont]
theorem am_rE {cl : am_C} {j pc : Nat} {m : am_M} {i : Instr} {n : Nat} {ls : am_Ls} {st : List am_V} {h : am_H} {r : am_Re} (hm : am_ml[j]? = some m) (hd : am_code j pc = some (i, n)) (hx : am_next m i n pc ls st h = some (.inr (.inl r))) : am_go0 cl j pc ls st h = some r := by
  rw [am_go0_eq, am_one, hm, hd]
  simp only [hx, am_cont]
def am_bd (x : Option am_Re) (f : Option am_V → am_H → Option am_Re) : Option am_Re := match x with
  | none => none
  | some (v, h) => f v h
theorem am_bd_s (v : Option am_V) (h : am_H) (f : Option am_V → am_H → Option am_Re) : am_bd (some (v, h)) f = f v h := rfl
theorem am_rC {cl : am_C} {j pc : Nat} {m : am_M} {i : Instr} {n : Nat} {ls : am_Ls} {st : List am_V} {h : am_H} {j2 pc2 : Nat} {as r : List am_V} {ls2 : am_Ls} {h2 : am_H} (hm : am_ml[j]? = some m) (hd : am_code j pc = some (i, n)) (hx : am_next m i n pc ls st h = some (.inr (.inr (j2, as, pc2, ls2, r, h2)))) : am_go0 cl j pc ls st h = am_bd (cl j2 as h2) (fun v h' => am_go0 cl j pc2 ls2 (v.toList ++ r) h') := by
  rw [am_go0_eq, am_one, hm, hd]
  simp only [hx, am_cont]
  unfold am_bd
  split <;> simp_all
theorem am_rJ {cl : am_C} {j pc : Nat} {m : am_M} {i : Instr} {n : Nat} {ls ls' : am_Ls} {st st' : List am_V} {h h' : am_H} {P : Prop} [Decidable P] {t1 t2 : Nat} (hm : am_ml[j]? = some m) (hd : am_code j pc = some (i, n)) (hx : am_next m i n pc ls st h = some (.inl (if decide P = true then t1 else t2, ls', st', h'))) : am_go0 cl j pc ls st h = if P then am_go0 cl j t1 ls' st' h' else am_go0 cl j t2 ls' st' h' := by
  rw [am_r hm hd hx]
  by_cases q : P <;> simp [q]
/-- a step that asks for a condition -/
theorem am_rI {cl : am_C} {j pc : Nat} {m : am_M} {i : Instr} {n : Nat} {ls ls' : am_Ls} {st st' : List am_V} {h h' : am_H} {P : Prop} [Decidable P] {t1 : Nat} (hm : am_ml[j]? = some m) (hd : am_code j pc = some (i, n)) (hx : am_next m i n pc ls st h = if P then some (.inl (t1, ls', st', h')) else none) : am_go0 cl j pc ls st h = if P then am_go0 cl j t1 ls' st' h' else none := by
  rw [am_go0_eq, am_one, hm, hd]
  simp only [hx]
  by_cases q : P <;> simp [q, am_cont]
theorem am_inb_iff {S : List (Nat × Nat)} {k tag n : Nat} (h : S[k]? = some (tag, n)) (j : Int) : am_inb S k tag j = true ↔ 0 ≤ j ∧ j < n := by
  simp [am_inb, h]
theorem am_rA {cl : am_C} {j pc nx : Nat} {m : am_M} (hm : am_ml[j]? = some m) (hd : am_code j pc = some (.iaload, 1)) (ho : m.2.2.2.2 ≠ 10) (hn : pc + 1 = nx) (k : Nat) (ls : am_Ls) (r : List am_V) (i : Int) (S : List (Nat × Nat)) (R : Nat → Int → Option Nat) (I : Nat → Int → Int) (L : Nat → Int → Int64) : am_go0 cl j pc ls (.inl i :: .inr (.inr (some k)) :: r) (S, R, I, L) = if am_inb S k 0 i = true then am_go0 cl j nx ls (.inl (I k i) :: r) (S, R, I, L) else none := by
  subst hn
  refine am_rI hm hd ?_
  simp [am_next, am_ial, ho, am_go]
theorem am_rAb {cl : am_C} {j pc nx : Nat} {m : am_M} (hm : am_ml[j]? = some m) (hd : am_code j pc = some (.baload, 1)) (hn : pc + 1 = nx) (k : Nat) (ls : am_Ls) (r : List am_V) (i : Int) (S : List (Nat × Nat)) (R : Nat → Int → Option Nat) (I : Nat → Int → Int) (L : Nat → Int → Int64) : am_go0 cl j pc ls (.inl i :: .inr (.inr (some k)) :: r) (S, R, I, L) = if am_inb S k 2 i = true then am_go0 cl j nx ls (.inl (I k i) :: r) (S, R, I, L) else none := by
  subst hn
  exact am_rI hm hd rfl
theorem am_rAl {cl : am_C} {j pc nx : Nat} {m : am_M} (hm : am_ml[j]? = some m) (hd : am_code j pc = some (.laload, 1)) (hn : pc + 1 = nx) (k : Nat) (ls : am_Ls) (r : List am_V) (i : Int) (S : List (Nat × Nat)) (R : Nat → Int → Option Nat) (I : Nat → Int → Int) (L : Nat → Int → Int64) : am_go0 cl j pc ls (.inl i :: .inr (.inr (some k)) :: r) (S, R, I, L) = if am_inb S k 1 i = true then am_go0 cl j nx ls (.inr (.inl (L k i)) :: r) (S, R, I, L) else none := by
  subst hn
  exact am_rI hm hd rfl
theorem am_rS {cl : am_C} {j pc nx : Nat} {m : am_M} (hm : am_ml[j]? = some m) (hd : am_code j pc = some (.iastore, 1)) (hn : pc + 1 = nx) (k : Nat) (ls : am_Ls) (r : List am_V) (i v : Int) (S : List (Nat × Nat)) (R : Nat → Int → Option Nat) (I : Nat → Int → Int) (L : Nat → Int → Int64) : am_go0 cl j pc ls (.inl v :: .inl i :: .inr (.inr (some k)) :: r) (S, R, I, L) = if am_inb S k 0 i = true then am_go0 cl j nx ls r (S, R, am_uI I k i v, L) else none := by
  subst hn
  exact am_rI hm hd rfl
theorem am_rSb {cl : am_C} {j pc nx : Nat} {m : am_M} (hm : am_ml[j]? = some m) (hd : am_code j pc = some (.bastore, 1)) (hn : pc + 1 = nx) (k : Nat) (ls : am_Ls) (r : List am_V) (i v : Int) (S : List (Nat × Nat)) (R : Nat → Int → Option Nat) (I : Nat → Int → Int) (L : Nat → Int → Int64) : am_go0 cl j pc ls (.inl v :: .inl i :: .inr (.inr (some k)) :: r) (S, R, I, L) = if am_inb S k 2 i = true ∧ (v = 0 ∨ v = 1) then am_go0 cl j nx ls r (S, R, am_uI I k i v, L) else none := by
  subst hn
  exact am_rI hm hd rfl
theorem am_rSl {cl : am_C} {j pc nx : Nat} {m : am_M} (hm : am_ml[j]? = some m) (hd : am_code j pc = some (.lastore, 1)) (hn : pc + 1 = nx) (k : Nat) (ls : am_Ls) (r : List am_V) (i : Int) (v : Int64) (S : List (Nat × Nat)) (R : Nat → Int → Option Nat) (I : Nat → Int → Int) (L : Nat → Int → Int64) : am_go0 cl j pc ls (.inr (.inl v) :: .inl i :: .inr (.inr (some k)) :: r) (S, R, I, L) = if am_inb S k 1 i = true then am_go0 cl j nx ls r (S, R, I, am_uL L k i v) else none := by
  subst hn
  exact am_rI hm hd rfl
theorem am_rJ0 {cl : am_C} {j pc t n nx : Nat} {m : am_M} {k : Jvm.ClassFile.Cond} {off : Int} (hm : am_ml[j]? = some m) (hd : am_code j pc = some (.if_icmp k off, n)) (ht : (pc : Int) + off = (t : Int)) (hn : pc + n = nx) (a b : Int) (ls : am_Ls) (r : List am_V) (h : am_H) : am_go0 cl j pc ls (.inl b :: .inl a :: r) h = if am_cmp k a b = true then am_go0 cl j t ls r h else am_go0 cl j nx ls r h := by
  subst hn
  have hx : am_next m (.if_icmp k off) n pc ls (.inl b :: .inl a :: r) h = some (.inl (if am_cmp k a b = true then t else pc + n, ls, r, h)) := by
    simp only [am_next, am_jmp, ht, am_go]
    simp
  rw [am_r hm hd hx]
  by_cases q : am_cmp k a b = true <;> simp [q]
theorem am_rJ1 {cl : am_C} {j pc t n nx : Nat} {m : am_M} {k : Jvm.ClassFile.Cond} {off : Int} (hm : am_ml[j]? = some m) (hd : am_code j pc = some (.ifCond k off, n)) (ht : (pc : Int) + off = (t : Int)) (hn : pc + n = nx) (a : Int) (ls : am_Ls) (r : List am_V) (h : am_H) : am_go0 cl j pc ls (.inl a :: r) h = if am_cmp k a 0 = true then am_go0 cl j t ls r h else am_go0 cl j nx ls r h := by
  subst hn
  have hx : am_next m (.ifCond k off) n pc ls (.inl a :: r) h = some (.inl (if am_cmp k a 0 = true then t else pc + n, ls, r, h)) := by
    simp only [am_next, am_jmp, ht, am_go]
    simp
  rw [am_r hm hd hx]
  by_cases q : am_cmp k a 0 = true <;> simp [q]
theorem am_cmp_eq (a b : Int) : (am_cmp .eq a b = true) ↔ a = b := by simp [am_cmp]
theorem am_cmp_ne (a b : Int) : (am_cmp .ne a b = true) ↔ a ≠ b := by simp [am_cmp]
theorem am_cmp_lt (a b : Int) : (am_cmp .lt a b = true) ↔ a < b := by simp [am_cmp]
theorem am_cmp_ge (a b : Int) : (am_cmp .ge a b = true) ↔ b ≤ a := by simp [am_cmp]
theorem am_cmp_gt (a b : Int) : (am_cmp .gt a b = true) ↔ b < a := by simp [am_cmp]
theorem am_cmp_le (a b : Int) : (am_cmp .le a b = true) ↔ a ≤ b := by simp [am_cmp]
theorem am_ifT {α : Type} {P Q : Prop} [Decidable P] [Decidable Q] (h : P ↔ Q) (a b : α) : (if P then a else b) = if Q then a else b := by
  by_cases q : Q
  · rw [if_pos q, if_pos (h.mpr q)]
  · rw [if_neg q, if_neg (fun w => q (h.mp w))]
theorem am_ifF {α : Type} {P Q : Prop} [Decidable P] [Decidable Q] (h : P ↔ ¬ Q) (a b : α) : (if P then a else b) = if Q then b else a := by
  by_cases q : Q
  · rw [if_pos q, if_neg (fun w => h.mp w q)]
  · rw [if_neg q, if_pos (h.mpr q)]
theorem am_rGo {cl : am_C} {j pc t n : Nat} {m : am_M} {off : Int} (hm : am_ml[j]? = some m) (hd : am_code j pc = some (.goto off, n)) (ht : (pc : Int) + off = (t : Int)) (ls : am_Ls) (r : List am_V) (h : am_H) : am_go0 cl j pc ls r h = am_go0 cl j t ls r h := by
  refine am_r hm hd ?_
  simp only [am_next, am_jmp, ht, am_go]
  simp
theorem am_rTs {cl : am_C} {j pc t n : Nat} {m : am_M} {d lo hi : Int} {offs : Array Int} (off : Int) {a : Int} (hm : am_ml[j]? = some m) (hd : am_code j pc = some (.tableswitch d lo hi offs, n)) (hs : am_sw lo hi d offs a = some off) (ht : (pc : Int) + off = (t : Int)) (ls : am_Ls) (r : List am_V) (h : am_H) : am_go0 cl j pc ls (.inl a :: r) h = am_go0 cl j t ls r h := by
  refine am_r hm hd ?_
  simp only [am_next, hs, am_jmp, ht, am_go]
  simp
theorem am_sw_out {lo hi d : Int} {offs : Array Int} {a : Int} (h : a < lo ∨ hi < a) : am_sw lo hi d offs a = some d := by simp [am_sw, h]
theorem am_rLs {cl : am_C} {j pc t n : Nat} {m : am_M} {d : Int} {ps : Array (Int × Int)} {a : Int} (hm : am_ml[j]? = some m) (hd : am_code j pc = some (.lookupswitch d ps, n)) (hs : (ps.toList.zip (ps.toList.drop 1)).all (fun (a, next) => a.1 < next.1) = true) (ht : (pc : Int) + Op.lookupswitch.offset ps.toList d a = (t : Int)) (ls : am_Ls) (r : List am_V) (h : am_H) : am_go0 cl j pc ls (.inl a :: r) h = am_go0 cl j t ls r h := by
  refine am_r hm hd ?_
  simp only [am_next, hs, am_jmp, ht, am_go]
  simp
theorem am_rB {cl : am_C} {j pc n nx : Nat} {m : am_M} {a v : Int} (hm : am_ml[j]? = some m) (hd : am_code j pc = some (.bipush a, n)) (hv : (Int8.ofInt a).toInt = v) (hn : pc + n = nx) (ls : am_Ls) (r : List am_V) (h : am_H) : am_go0 cl j pc ls r h = am_go0 cl j nx ls (.inl v :: r) h := by
  subst hn; subst hv
  exact am_r hm hd rfl
theorem am_rBs {cl : am_C} {j pc n nx : Nat} {m : am_M} {a v : Int} (hm : am_ml[j]? = some m) (hd : am_code j pc = some (.sipush a, n)) (hv : (Int16.ofInt a).toInt = v) (hn : pc + n = nx) (ls : am_Ls) (r : List am_V) (h : am_H) : am_go0 cl j pc ls r h = am_go0 cl j nx ls (.inl v :: r) h := by
  subst hn; subst hv
  exact am_r hm hd rfl
theorem am_rK {cl : am_C} {j pc n nx : Nat} {m : am_M} {a v : Int} (hm : am_ml[j]? = some m) (hd : am_code j pc = some (.iconst a, n)) (hv : am_wr a = v) (hn : pc + n = nx) (ls : am_Ls) (r : List am_V) (h : am_H) : am_go0 cl j pc ls r h = am_go0 cl j nx ls (.inl v :: r) h := by
  subst hn; subst hv
  exact am_r hm hd rfl
theorem am_rKc {cl : am_C} {j pc n nx a : Nat} {m : am_M} {v : Int} (hm : am_ml[j]? = some m) (hd : am_code j pc = some (.ldc a, n)) (hv : am_lk am_kk (am_key m.2.2.2.2 a) = some v) (hn : pc + n = nx) (ls : am_Ls) (r : List am_V) (h : am_H) : am_go0 cl j pc ls r h = am_go0 cl j nx ls (.inl v :: r) h := by
  subst hn
  refine am_r hm hd ?_
  simp only [am_next, hv, am_go]
theorem am_rRz {cl : am_C} {j pc n : Nat} {y : MethodName} {c : ByteArray} {ml o : Nat} (hm : am_ml[j]? = some (y, c, ml, some .boolean, o)) (hd : am_code j pc = some (.ireturn, n)) (a : Int) (ls : am_Ls) (h : am_H) : am_go0 cl j pc ls [.inl a] h = if a = 0 ∨ a = 1 then some (some (.inl a), h) else none := by
  rw [am_go0_eq, am_one, hm, hd]
  simp only [am_next, am_ret]
  by_cases q : a = 0 ∨ a = 1
  · rw [if_pos q, if_pos q]; rfl
  · rw [if_neg q, if_neg q]; rfl
theorem am_rV {cl : am_C} {j pc n i j2 na nx a : Nat} {m m2 : am_M} {as r : List am_V} {S : List (Nat × Nat)} {R : Nat → Int → Option Nat} {I : Nat → Int → Int} {L : Nat → Int → Int64} {st : List am_V} (hm : am_ml[j]? = some m) (hd : am_code j pc = some (.invokevirtual i, n)) (hk : am_lk am_mk (am_key m.2.2.2.2 i) = some (0, j2, na)) (hs : am_split na [] st = some (as, .inr (.inr (some a)) :: r)) (hm2 : am_ml[j2]? = some m2) (hS : S[a]? = some (m2.2.2.2.2 + 3, 0)) (ha : a ≠ 0) (hw : am_words r ≤ 8) (hn : pc + n = nx) (ls : am_Ls) : am_go0 cl j pc ls st (S, R, I, L) = am_bd (cl j2 (.inr (.inr (some a)) :: as) (S, R, I, L)) (fun v h' => am_go0 cl j nx ls (v.toList ++ r) h') := by
  subst hn
  refine am_rC hm hd ?_
  simp only [am_next, am_inv, hk, hs, hm2, hS]
  simp [ha, hw]
theorem am_rVs {cl : am_C} {j pc n i j2 na nx : Nat} {m : am_M} {as r : List am_V} {h : am_H} {st : List am_V} (hm : am_ml[j]? = some m) (hd : am_code j pc = some (.invokestatic i, n)) (hk : am_lk am_mk (am_key m.2.2.2.2 i) = some (1, j2, na)) (hs : am_split na [] st = some (as, r)) (hw : am_words r ≤ 8) (hn : pc + n = nx) (ls : am_Ls) : am_go0 cl j pc ls st h = am_bd (cl j2 as h) (fun v h' => am_go0 cl j nx ls (v.toList ++ r) h') := by
  subst hn
  refine am_rC hm hd ?_
  simp only [am_next, am_inv, hk, hs]
  simp [hw]
theorem am_rG0 {cl : am_C} {j pc nx k i c f : Nat} {m : am_M} {ls : am_Ls} {r : List am_V} {S : List (Nat × Nat)} {R : Nat → Int → Option Nat} {I : Nat → Int → Int} {L : Nat → Int → Int64} (hm : am_ml[j]? = some m) (hd : am_code j pc = some (.getfield i, 3)) (hf : am_lk am_fl (am_key m.2.2.2.2 i) = some (c, f)) (ht : am_ft c f = 0) (hS : S[k]? = some (c + 3, 0)) (hk : k ≠ 0) (hn : pc + 3 = nx) : am_go0 cl j pc ls (.inr (.inr (some k)) :: r) (S, R, I, L) = am_go0 cl j nx ls (.inl (I k f) :: r) (S, R, I, L) := by
  subst hn
  refine am_r hm hd ?_
  simp only [am_next, am_gf, hf, hS, hk, ht, am_go]
  simp [hk]
theorem am_rG1 {cl : am_C} {j pc nx k i c f : Nat} {m : am_M} {ls : am_Ls} {r : List am_V} {S : List (Nat × Nat)} {R : Nat → Int → Option Nat} {I : Nat → Int → Int} {L : Nat → Int → Int64} (hm : am_ml[j]? = some m) (hd : am_code j pc = some (.getfield i, 3)) (hf : am_lk am_fl (am_key m.2.2.2.2 i) = some (c, f)) (ht : am_ft c f = 1) (hS : S[k]? = some (c + 3, 0)) (hk : k ≠ 0) (hn : pc + 3 = nx) : am_go0 cl j pc ls (.inr (.inr (some k)) :: r) (S, R, I, L) = am_go0 cl j nx ls (.inr (.inl (L k f)) :: r) (S, R, I, L) := by
  subst hn
  refine am_r hm hd ?_
  simp only [am_next, am_gf, hf, hS, hk, ht, am_go]
  simp [hk]
theorem am_rG2 {cl : am_C} {j pc nx k i c f : Nat} {m : am_M} {ls : am_Ls} {r : List am_V} {S : List (Nat × Nat)} {R : Nat → Int → Option Nat} {I : Nat → Int → Int} {L : Nat → Int → Int64} {a : Option Nat} (hm : am_ml[j]? = some m) (hd : am_code j pc = some (.getfield i, 3)) (hf : am_lk am_fl (am_key m.2.2.2.2 i) = some (c, f)) (ht : am_ft c f = 2) (hS : S[k]? = some (c + 3, 0)) (hk : k ≠ 0) (hR : R k f = a) (hn : pc + 3 = nx) : am_go0 cl j pc ls (.inr (.inr (some k)) :: r) (S, R, I, L) = am_go0 cl j nx ls (.inr (.inr a) :: r) (S, R, I, L) := by
  subst hn
  subst hR
  refine am_r hm hd ?_
  simp only [am_next, am_gf, hf, hS, hk, ht, am_go]
  simp [hk]
theorem am_rP0 {cl : am_C} {j pc nx k i c f : Nat} {m : am_M} {ls : am_Ls} {r : List am_V} {v : Int} {S : List (Nat × Nat)} {R : Nat → Int → Option Nat} {I : Nat → Int → Int} {L : Nat → Int → Int64} (hm : am_ml[j]? = some m) (hd : am_code j pc = some (.putfield i, 3)) (hf : am_lk am_fl (am_key m.2.2.2.2 i) = some (c, f)) (ht : am_ft c f = 0) (hS : S[k]? = some (c + 3, 0)) (hk : k ≠ 0) (hn : pc + 3 = nx) : am_go0 cl j pc ls (.inl v :: .inr (.inr (some k)) :: r) (S, R, I, L) = am_go0 cl j nx ls r (S, R, am_uI I k f v, L) := by
  subst hn
  refine am_r hm hd ?_
  simp only [am_next, am_pf, hf, hS, hk, ht, am_go]
  simp [hk]
theorem am_rP1 {cl : am_C} {j pc nx k i c f : Nat} {m : am_M} {ls : am_Ls} {r : List am_V} {v : Int64} {S : List (Nat × Nat)} {R : Nat → Int → Option Nat} {I : Nat → Int → Int} {L : Nat → Int → Int64} (hm : am_ml[j]? = some m) (hd : am_code j pc = some (.putfield i, 3)) (hf : am_lk am_fl (am_key m.2.2.2.2 i) = some (c, f)) (ht : am_ft c f = 1) (hS : S[k]? = some (c + 3, 0)) (hk : k ≠ 0) (hn : pc + 3 = nx) : am_go0 cl j pc ls (.inr (.inl v) :: .inr (.inr (some k)) :: r) (S, R, I, L) = am_go0 cl j nx ls r (S, R, I, am_uL L k f v) := by
  subst hn
  refine am_r hm hd ?_
  simp only [am_next, am_pf, hf, hS, hk, ht, am_go]
  simp [hk]
theorem am_callE {d j : Nat} {m : am_M} {as : List am_V} {ls : am_Ls} {h : am_H} (hm : am_ml[j]? = some m) (hl : (am_ent as).length ≤ m.2.2.1) (he : am_pad m.2.2.1 (am_ent as) = ls) : am_call (d + 1) j as h = am_go0 (am_call d) j 0 ls [] h := by
  subst he
  simp only [am_call, hm, hl]
  simp
