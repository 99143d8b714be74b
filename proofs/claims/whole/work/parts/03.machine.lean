/-! An abstract machine over the claim's own bytecode: ints are whole numbers, references are the numbers of the cells in the order in which they were made (0: the script). -/
abbrev am_V : Type := Int ⊕ Int64 ⊕ Option Nat
abbrev am_Ls : Type := List (Option am_V)
abbrev am_H : Type := List (Nat × Nat) × (Nat → Int → Option Nat) × (Nat → Int → Int) × (Nat → Int → Int64)
abbrev am_Re : Type := Option am_V × am_H
abbrev am_C : Type := Nat → List am_V → am_H → Option am_Re
abbrev am_Nx : Type := (Nat × am_Ls × List am_V × am_H) ⊕ am_Re ⊕ (Nat × List am_V × Nat × am_Ls × List am_V × am_H)
abbrev am_M : Type := MethodName × ByteArray × Nat × Option FieldType × Nat
def am_wr (x : Int) : Int := x.bmod 4294967296
def am_uI (I : Nat → Int → Int) (k : Nat) (j v : Int) : Nat → Int → Int := fun k' j' => if k' = k ∧ j' = j then v else I k' j'
def am_uL (L : Nat → Int → Int64) (k : Nat) (j : Int) (v : Int64) : Nat → Int → Int64 := fun k' j' => if k' = k ∧ j' = j then v else L k' j'
def am_uR (R : Nat → Int → Option Nat) (k : Nat) (j : Int) (v : Option Nat) : Nat → Int → Option Nat := fun k' j' => if k' = k ∧ j' = j then v else R k' j'
def am_zI (I : Nat → Int → Int) (k : Nat) : Nat → Int → Int := fun k' j' => if k' = k then 0 else I k' j'
def am_zL (L : Nat → Int → Int64) (k : Nat) : Nat → Int → Int64 := fun k' j' => if k' = k then 0 else L k' j'
def am_zR (R : Nat → Int → Option Nat) (k : Nat) : Nat → Int → Option Nat := fun k' j' => if k' = k then none else R k' j'
def am_c2 (v : am_V) : Bool := match v with
  | .inr (.inl _) => true
  | _ => false
def am_c1 (a : Option am_V) : Option am_V := match a with
  | some (.inr (.inl _)) => none
  | y => y
def am_get : am_Ls → Nat → Option am_V
  | [], _ => none
  | a :: _, 0 => a
  | _ :: r, n + 1 => am_get r n
def am_st1 : am_Ls → Nat → am_V → am_Ls
  | [], _, _ => []
  | _ :: r, 0, v => some v :: r
  | a :: r, 1, v => am_c1 a :: am_st1 r 0 v
  | a :: r, n + 2, v => a :: am_st1 r (n + 1) v
def am_st2 : am_Ls → Nat → am_V → am_Ls
  | [], _, _ => []
  | [_], 0, _ => []
  | _ :: _ :: r, 0, v => some v :: none :: r
  | a :: r, 1, v => am_c1 a :: am_st2 r 0 v
  | a :: r, n + 2, v => a :: am_st2 r (n + 1) v
/-- the locals with which a method begins -/
def am_ent : List am_V → am_Ls
  | [] => []
  | v :: r => if am_c2 v then some v :: none :: am_ent r else some v :: am_ent r
def am_split : Nat → List am_V → List am_V → Option (List am_V × List am_V)
  | 0, acc, st => some (acc, st)
  | n + 1, acc, v :: st => am_split n (v :: acc) st
  | _ + 1, _, [] => none
def am_cmp (k : Jvm.ClassFile.Cond) (a b : Int) : Bool := match k with
  | .eq => decide (a = b)
  | .ne => decide (a ≠ b)
  | .lt => decide (a < b)
  | .ge => decide (b ≤ a)
  | .gt => decide (b < a)
  | .le => decide (a ≤ b)
def am_lk {α : Type} : List (Nat × α) → Nat → Option α
  | [], _ => none
  | (a, b) :: r, k => if a = k then some b else am_lk r k
def am_key (o i : Nat) : Nat := if i < 1000 then o * 1000 + i else 99999999
def am_go (pc : Nat) (ls : am_Ls) (st : List am_V) (h : am_H) : Option am_Nx := some (.inl (pc, ls, st, h))
def am_jmp (pc : Nat) (off : Int) (c : Bool) (nx : Nat) (ls : am_Ls) (st : List am_V) (h : am_H) : Option am_Nx :=
  if 0 ≤ (pc : Int) + off then am_go (if c = true then ((pc : Int) + off).toNat else nx) ls st h else none
def am_load (k : Nat) (i : Nat) (nx : Nat) (ls : am_Ls) (st : List am_V) (h : am_H) : Option am_Nx := match k, am_get ls i with
  | 0, some (.inl a) => am_go nx ls (.inl a :: st) h
  | 1, some (.inr (.inl a)) => am_go nx ls (.inr (.inl a) :: st) h
  | 2, some (.inr (.inr (some a))) => am_go nx ls (.inr (.inr (some a)) :: st) h
  | _, _ => none
def am_store (k : Nat) (i : Nat) (nx : Nat) (ls : am_Ls) (st : List am_V) (h : am_H) : Option am_Nx := match k, st with
  | 0, .inl a :: r => if i < ls.length then am_go nx (am_st1 ls i (.inl a)) r h else none
  | 1, .inr (.inl a) :: r => if i + 1 < ls.length then am_go nx (am_st2 ls i (.inr (.inl a))) r h else none
  | 2, .inr (.inr (some a)) :: r => if i < ls.length then am_go nx (am_st1 ls i (.inr (.inr (some a)))) r h else none
  | _, _ => none
def am_bin (f : Int → Int → Int) (nx : Nat) (ls : am_Ls) (st : List am_V) (h : am_H) : Option am_Nx := match st with
  | .inl b :: .inl a :: r => am_go nx ls (.inl (f a b) :: r) h
  | _ => none
def am_binL (f : Int64 → Int64 → Int64) (nx : Nat) (ls : am_Ls) (st : List am_V) (h : am_H) : Option am_Nx := match st with
  | .inr (.inl b) :: .inr (.inl a) :: r => am_go nx ls (.inr (.inl (f a b)) :: r) h
  | _ => none
def am_in (S : List (Nat × Nat)) (k tag : Nat) (j : Int) : Prop := ∃ n : Nat, S[k]? = some (tag, n) ∧ 0 ≤ j ∧ j < n
def am_inb (S : List (Nat × Nat)) (k tag : Nat) (j : Int) : Bool := match S[k]? with
  | some (t, n) => t == tag && decide (0 ≤ j) && decide (j < n)
  | none => false
def am_ial (o : Nat) (nx : Nat) (ls : am_Ls) (st : List am_V) (h : am_H) : Option am_Nx := match st with
  | .inl j :: .inr (.inr (some k)) :: r => if am_inb h.1 k 0 j = true ∨ (k = 0 ∧ o = 10 ∧ am_inb h.1 0 9 j = true) then am_go nx ls (.inl (h.2.2.1 k j) :: r) h else none
  | _ => none
def am_bal (nx : Nat) (ls : am_Ls) (st : List am_V) (h : am_H) : Option am_Nx := match st with
  | .inl j :: .inr (.inr (some k)) :: r => if am_inb h.1 k 2 j = true then am_go nx ls (.inl (h.2.2.1 k j) :: r) h else none
  | _ => none
def am_lal (nx : Nat) (ls : am_Ls) (st : List am_V) (h : am_H) : Option am_Nx := match st with
  | .inl j :: .inr (.inr (some k)) :: r => if am_inb h.1 k 1 j = true then am_go nx ls (.inr (.inl (h.2.2.2 k j)) :: r) h else none
  | _ => none
def am_ias (nx : Nat) (ls : am_Ls) (st : List am_V) (h : am_H) : Option am_Nx := match st with
  | .inl v :: .inl j :: .inr (.inr (some k)) :: r => if am_inb h.1 k 0 j = true then am_go nx ls r (h.1, h.2.1, am_uI h.2.2.1 k j v, h.2.2.2) else none
  | _ => none
def am_bas (nx : Nat) (ls : am_Ls) (st : List am_V) (h : am_H) : Option am_Nx := match st with
  | .inl v :: .inl j :: .inr (.inr (some k)) :: r => if am_inb h.1 k 2 j = true ∧ (v = 0 ∨ v = 1) then am_go nx ls r (h.1, h.2.1, am_uI h.2.2.1 k j v, h.2.2.2) else none
  | _ => none
def am_las (nx : Nat) (ls : am_Ls) (st : List am_V) (h : am_H) : Option am_Nx := match st with
  | .inr (.inl v) :: .inl j :: .inr (.inr (some k)) :: r => if am_inb h.1 k 1 j = true then am_go nx ls r (h.1, h.2.1, h.2.2.1, am_uL h.2.2.2 k j v) else none
  | _ => none
def am_len (o : Nat) (nx : Nat) (ls : am_Ls) (st : List am_V) (h : am_H) : Option am_Nx := match st with
  | .inr (.inr (some k)) :: r => match h.1[k]? with
    | some (t, n) => if (t < 3 ∧ k ≠ 0 ∨ (t = 9 ∧ k = 0 ∧ o = 10)) ∧ n < 2147483648 then am_go nx ls (.inl (n : Int) :: r) h else none
    | none => none
  | _ => none
def am_ft (c k : Nat) : Nat := ((am_fts[c]?).getD [])[k]?.getD 9
def am_gf (o i : Nat) (nx : Nat) (ls : am_Ls) (st : List am_V) (h : am_H) : Option am_Nx := match am_lk am_fl (am_key o i), st with
  | some (c, f), .inr (.inr (some k)) :: r => if h.1[k]? = some (c + 3, 0) ∧ k ≠ 0 then (match am_ft c f with
    | 0 => am_go nx ls (.inl (h.2.2.1 k f) :: r) h
    | 1 => am_go nx ls (.inr (.inl (h.2.2.2 k f)) :: r) h
    | 2 => am_go nx ls (.inr (.inr (h.2.1 k f)) :: r) h
    | _ => none) else none
  | _, _ => none
def am_pf (init : Bool) (o i : Nat) (nx : Nat) (ls : am_Ls) (st : List am_V) (h : am_H) : Option am_Nx := match am_lk am_fl (am_key o i), st with
  | some (c, f), v :: .inr (.inr (some k)) :: r => if h.1[k]? = some (c + 3, 0) ∧ k ≠ 0 then (match am_ft c f, v with
    | 0, .inl a => am_go nx ls r (h.1, h.2.1, am_uI h.2.2.1 k f a, h.2.2.2)
    | 1, .inr (.inl a) => am_go nx ls r (h.1, h.2.1, h.2.2.1, am_uL h.2.2.2 k f a)
    | 2, .inr (.inr (some a)) => if init = true ∧ c = o ∧ a ≠ 0 then am_go nx ls r (h.1, am_uR h.2.1 k f (some a), h.2.2.1, h.2.2.2) else none
    | _, _ => none) else none
  | _, _ => none
def am_new (o i : Nat) (nx : Nat) (ls : am_Ls) (st : List am_V) (h : am_H) : Option am_Nx := match am_lk am_ck (am_key o i) with
  | some c => am_go nx ls (.inr (.inr (some h.1.length)) :: st) (h.1 ++ [(c + 3, 0)], am_zR h.2.1 h.1.length, am_zI h.2.2.1 h.1.length, am_zL h.2.2.2 h.1.length)
  | none => none
def am_newa (a : ArrayType) (nx : Nat) (ls : am_Ls) (st : List am_V) (h : am_H) : Option am_Nx := match a, st with
  | .int, .inl n :: r => if 0 ≤ n ∧ n ≤ 10000 then am_go nx ls (.inr (.inr (some h.1.length)) :: r) (h.1 ++ [(0, n.toNat)], am_zR h.2.1 h.1.length, am_zI h.2.2.1 h.1.length, am_zL h.2.2.2 h.1.length) else none
  | .long, .inl n :: r => if 0 ≤ n ∧ n ≤ 10000 then am_go nx ls (.inr (.inr (some h.1.length)) :: r) (h.1 ++ [(1, n.toNat)], am_zR h.2.1 h.1.length, am_zI h.2.2.1 h.1.length, am_zL h.2.2.2 h.1.length) else none
  | .boolean, .inl n :: r => if 0 ≤ n ∧ n ≤ 10000 then am_go nx ls (.inr (.inr (some h.1.length)) :: r) (h.1 ++ [(2, n.toNat)], am_zR h.2.1 h.1.length, am_zI h.2.2.1 h.1.length, am_zL h.2.2.2 h.1.length) else none
  | _, _ => none
def am_words (st : List am_V) : Nat := (st.map (fun v => if am_c2 v = true then 2 else 1)).sum
def am_inv (kd o i : Nat) (nx : Nat) (ls : am_Ls) (st : List am_V) (h : am_H) : Option am_Nx := match am_lk am_mk (am_key o i) with
  | some (k, j, n) => match kd, k, am_split n [] st with
    | 0, 0, some (as, .inr (.inr (some a)) :: r) => (match am_ml[j]? with
      | some m => if h.1[a]? = some (m.2.2.2.2 + 3, 0) ∧ a ≠ 0 ∧ am_words r ≤ 8 then some (.inr (.inr (j, .inr (.inr (some a)) :: as, nx, ls, r, h))) else none
      | none => none)
    | 1, 1, some (as, r) => if am_words r ≤ 8 then some (.inr (.inr (j, as, nx, ls, r, h))) else none
    | 1, 5, some ([.inl a, .inl b], r) => if am_words r ≤ 8 then am_go nx ls (.inl (if a < b then b else a) :: r) h else none
    | 2, 2, some (as, .inr (.inr (some a)) :: r) => if am_words r ≤ 8 then some (.inr (.inr (j, .inr (.inr (some a)) :: as, nx, ls, r, h))) else none
    | 2, 3, some (as, .inr (.inr (some a)) :: r) => if am_words r ≤ 8 then some (.inr (.inr (j, .inr (.inr (some a)) :: as, nx, ls, r, h))) else none
    | 2, 4, some (_, .inr (.inr (some _)) :: r) => if am_words r ≤ 8 then am_go nx ls r h else none
    | _, _, _ => none
  | none => none
def am_sw (lo hi dflt : Int) (offs : Array Int) (a : Int) : Option Int := if a < lo ∨ hi < a then some dflt else offs[(a - lo).toNat]?
def am_ret (rt : Option FieldType) (st : List am_V) (h : am_H) : Option am_Nx := match rt, st with
  | some .int, [.inl a] => some (.inr (.inl (some (.inl a), h)))
  | some .boolean, [.inl a] => if a = 0 ∨ a = 1 then some (.inr (.inl (some (.inl a), h))) else none
  | _, _ => none
def am_next (m : am_M) (i : Instr) (n pc : Nat) (ls : am_Ls) (st : List am_V) (h : am_H) : Option am_Nx := match i with
  | .iconst a => am_go (pc + n) ls (.inl (am_wr a) :: st) h
  | .bipush a => am_go (pc + n) ls (.inl (Int8.ofInt a).toInt :: st) h
  | .sipush a => am_go (pc + n) ls (.inl (Int16.ofInt a).toInt :: st) h
  | .lconst a => am_go (pc + n) ls (.inr (.inl (Int64.ofNat a)) :: st) h
  | .ldc a => match am_lk am_kk (am_key m.2.2.2.2 a) with
    | some v => am_go (pc + n) ls (.inl v :: st) h
    | none => none
  | .iload_n a => am_load 0 a (pc + n) ls st h
  | .iload a => am_load 0 a (pc + n) ls st h
  | .lload_n a => am_load 1 a (pc + n) ls st h
  | .lload a => am_load 1 a (pc + n) ls st h
  | .aload_n a => am_load 2 a (pc + n) ls st h
  | .aload a => am_load 2 a (pc + n) ls st h
  | .istore_n a => am_store 0 a (pc + n) ls st h
  | .istore a => am_store 0 a (pc + n) ls st h
  | .lstore_n a => am_store 1 a (pc + n) ls st h
  | .lstore a => am_store 1 a (pc + n) ls st h
  | .astore_n a => am_store 2 a (pc + n) ls st h
  | .astore a => am_store 2 a (pc + n) ls st h
  | .iinc a v => match am_get ls a with
    | some (.inl x) => if a < ls.length then am_go (pc + n) (am_st1 ls a (.inl (am_wr (x + v)))) st h else none
    | _ => none
  | .iadd => am_bin (fun a b => am_wr (a + b)) (pc + n) ls st h
  | .isub => am_bin (fun a b => am_wr (a - b)) (pc + n) ls st h
  | .imul => am_bin (fun a b => am_wr (a * b)) (pc + n) ls st h
  | .iand => am_bin (fun a b => (Int32.ofInt a &&& Int32.ofInt b).toInt) (pc + n) ls st h
  | .ior => am_bin (fun a b => (Int32.ofInt a ||| Int32.ofInt b).toInt) (pc + n) ls st h
  | .ishl => am_bin (fun a b => (Int32.ofInt a <<< (Int32.ofInt b &&& 31)).toInt) (pc + n) ls st h
  | .ishr => am_bin (fun a b => (Int32.ofInt a >>> (Int32.ofInt b &&& 31)).toInt) (pc + n) ls st h
  | .ladd => am_binL (fun a b => a + b) (pc + n) ls st h
  | .lsub => am_binL (fun a b => a - b) (pc + n) ls st h
  | .lmul => am_binL (fun a b => a * b) (pc + n) ls st h
  | .ldiv => match st with
    | .inr (.inl b) :: .inr (.inl a) :: r => if b = 0 then none else am_go (pc + n) ls (.inr (.inl (a / b)) :: r) h
    | _ => none
  | .lcmp => match st with
    | .inr (.inl b) :: .inr (.inl a) :: r => am_go (pc + n) ls (.inl (lg_cmp a b).toInt :: r) h
    | _ => none
  | .i2l => match st with
    | .inl a :: r => am_go (pc + n) ls (.inr (.inl (Int32.ofInt a).toInt64) :: r) h
    | _ => none
  | .dup => match st with
    | a :: r => if am_c2 a = true then none else am_go (pc + n) ls (a :: a :: r) h
    | _ => none
  | .pop => match st with
    | a :: r => if am_c2 a = true then none else am_go (pc + n) ls r h
    | _ => none
  | .dup_x1 => match st with
    | a :: b :: r => if am_c2 a = true ∨ am_c2 b = true then none else am_go (pc + n) ls (a :: b :: a :: r) h
    | _ => none
  | .dup2 => match st with
    | a :: b :: r => if am_c2 a = true ∨ am_c2 b = true then none else am_go (pc + n) ls (a :: b :: a :: b :: r) h
    | _ => none
  | .ifCond k off => match st with
    | .inl a :: r => am_jmp pc off (am_cmp k a 0) (pc + n) ls r h
    | _ => none
  | .if_icmp k off => match st with
    | .inl b :: .inl a :: r => am_jmp pc off (am_cmp k a b) (pc + n) ls r h
    | _ => none
  | .goto off => am_jmp pc off true (pc + n) ls st h
  | .tableswitch d lo hi offs => match st with
    | .inl a :: r => match am_sw lo hi d offs a with
      | some off => am_jmp pc off true (pc + n) ls r h
      | none => none
    | _ => none
  | .lookupswitch d ps => match st with
    | .inl a :: r => if (ps.toList.zip (ps.toList.drop 1)).all (fun (a, next) => a.1 < next.1) = true then am_jmp pc (Op.lookupswitch.offset ps.toList d a) true (pc + n) ls r h else none
    | _ => none
  | .arraylength => am_len m.2.2.2.2 (pc + n) ls st h
  | .iaload => am_ial m.2.2.2.2 (pc + n) ls st h
  | .baload => am_bal (pc + n) ls st h
  | .laload => am_lal (pc + n) ls st h
  | .iastore => am_ias (pc + n) ls st h
  | .bastore => am_bas (pc + n) ls st h
  | .lastore => am_las (pc + n) ls st h
  | .getfield a => am_gf m.2.2.2.2 a (pc + n) ls st h
  | .putfield a => am_pf (m.1.name == "<init>") m.2.2.2.2 a (pc + n) ls st h
  | .new a => am_new m.2.2.2.2 a (pc + n) ls st h
  | .newarray a => am_newa a (pc + n) ls st h
  | .invokevirtual a => am_inv 0 m.2.2.2.2 a (pc + n) ls st h
  | .invokestatic a => am_inv 1 m.2.2.2.2 a (pc + n) ls st h
  | .invokespecial a => am_inv 2 m.2.2.2.2 a (pc + n) ls st h
  | .ireturn => am_ret m.2.2.2.1 st h
  | .lreturn => match m.2.2.2.1, st with
    | some .long, [.inr (.inl a)] => some (.inr (.inl (some (.inr (.inl a)), h)))
    | _, _ => none
  | .return_ => match m.2.2.2.1, st with
    | none, [] => some (.inr (.inl (none, h)))
    | _, _ => none
  | _ => none
/-- the lengths that the rows of the kit speak of -/
def am_lok (i : Instr) (n : Nat) : Bool := match i with
  | .iload _ | .lload _ | .aload _ | .istore _ | .lstore _ | .astore _ | .bipush _ | .ldc _ | .newarray _ => n == 2
  | .sipush _ | .getfield _ | .putfield _ | .new _ | .invokevirtual _ | .invokestatic _ | .invokespecial _ | .ifCond _ _ | .if_icmp _ _ | .goto _ | .iinc _ _ => n == 3
  | .tableswitch _ _ _ _ | .lookupswitch _ _ => true
  | _ => n == 1
def am_code (j pc : Nat) : Option (Instr × Nat) := match am_ml[j]? with
  | some m => (match decode m.2.1 pc with
    | .ok (i, n) => if am_lok i n = true then some (i, n) else none
    | .error _ => none)
  | none => none
def am_one (j pc : Nat) (ls : am_Ls) (st : List am_V) (h : am_H) : Option am_Nx := match am_ml[j]?, am_code j pc with
  | some m, some (i, n) => am_next m i n pc ls st h
  | _, _ => none
/-- behind one instruction: how it goes on, with a way to go on -/
def am_cont (cl : am_C) (go : Nat → am_Ls → List am_V → am_H → Option am_Re) (x : Option am_Nx) : Option am_Re := match x with
  | none => none
  | some (.inl (pc, ls, st, h)) => go pc ls st h
  | some (.inr (.inl r)) => some r
  | some (.inr (.inr (j, as, pc, ls, r, h))) => match cl j as h with
    | none => none
    | some (v, h') => go pc ls (v.toList ++ r) h'
def am_run (cl : am_C) (j : Nat) : Nat → Nat → am_Ls → List am_V → am_H → Option am_Re
  | 0, _, _, _, _ => none
  | n + 1, pc, ls, st, h => am_cont cl (am_run cl j n) (am_one j pc ls st h)
theorem am_cont_mono {cl : am_C} {g1 g2 : Nat → am_Ls → List am_V → am_H → Option am_Re} (hg : ∀ pc ls st h r, g1 pc ls st h = some r → g2 pc ls st h = some r) {x : Option am_Nx} {r : am_Re} (h : am_cont cl g1 x = some r) : am_cont cl g2 x = some r := by
  unfold am_cont at h ⊢
  split at h
  · cases h
  · exact hg _ _ _ _ _ h
  · exact h
  · split at h
    · cases h
    · exact hg _ _ _ _ _ h
theorem am_run_succ {cl : am_C} {j : Nat} : ∀ (n pc : Nat) (ls : am_Ls) (st : List am_V) (h : am_H) (r : am_Re), am_run cl j n pc ls st h = some r → am_run cl j (n + 1) pc ls st h = some r := by
  intro n
  induction n with
  | zero => intro pc ls st h r q; cases q
  | succ n ih => intro pc ls st h r q; exact am_cont_mono ih q
theorem am_run_le {cl : am_C} {j n k : Nat} (hk : n ≤ k) {pc : Nat} {ls : am_Ls} {st : List am_V} {h : am_H} {r : am_Re} (q : am_run cl j n pc ls st h = some r) : am_run cl j k pc ls st h = some r := by
  induction hk with
  | refl => exact q
  | step _ ih => exact am_run_succ _ _ _ _ _ _ ih
/-- the run of a method from a place on, without a count of its steps -/
noncomputable def am_go0 (cl : am_C) (j pc : Nat) (ls : am_Ls) (st : List am_V) (h : am_H) : Option am_Re :=
  @dite _ (∃ (n : Nat) (r : am_Re), am_run cl j n pc ls st h = some r) (Classical.propDecidable _) (fun q => some (Classical.choose (Classical.choose_spec q))) (fun _ => none)
theorem am_go0_iff {cl : am_C} {j pc : Nat} {ls : am_Ls} {st : List am_V} {h : am_H} {r : am_Re} : am_go0 cl j pc ls st h = some r ↔ ∃ n, am_run cl j n pc ls st h = some r := by
  unfold am_go0
  constructor
  · intro q
    split at q
    · next w =>
      have w2 := Classical.choose_spec (Classical.choose_spec w)
      cases q
      exact ⟨_, w2⟩
    · cases q
  · intro ⟨n, q⟩
    have w : ∃ (n : Nat) (r : am_Re), am_run cl j n pc ls st h = some r := ⟨n, r, q⟩
    rw [dif_pos w]
    have w2 := Classical.choose_spec (Classical.choose_spec w)
    have a := am_run_le (Nat.le_max_left n (Classical.choose w)) q
    have b := am_run_le (Nat.le_max_right n (Classical.choose w)) w2
    exact b.symm.trans a
theorem am_go0_eq (cl : am_C) (j pc : Nat) (ls : am_Ls) (st : List am_V) (h : am_H) : am_go0 cl j pc ls st h = am_cont cl (am_go0 cl j) (am_one j pc ls st h) := by
  have key : ∀ r, am_go0 cl j pc ls st h = some r ↔ am_cont cl (am_go0 cl j) (am_one j pc ls st h) = some r := by
    intro r
    rw [am_go0_iff]
    constructor
    · intro ⟨n, q⟩
      cases n with
      | zero => cases q
      | succ n => exact am_cont_mono (fun pc ls st h r w => am_go0_iff.mpr ⟨n, w⟩) q
    · intro q
      have hx : ∃ n, am_cont cl (am_run cl j n) (am_one j pc ls st h) = some r := by
        generalize am_one j pc ls st h = z at q
        unfold am_cont at q ⊢
        split at q
        · cases q
        · exact am_go0_iff.mp q
        · exact ⟨0, q⟩
        · split at q
          · cases q
          · exact am_go0_iff.mp q
      obtain ⟨n, q⟩ := hx
      exact ⟨n + 1, q⟩
  cases hL : am_go0 cl j pc ls st h with
  | some r => exact ((key r).mp hL).symm
  | none =>
    cases hR : am_cont cl (am_go0 cl j) (am_one j pc ls st h) with
    | none => rfl
    | some r => rw [(key r).mpr hR] at hL; cases hL
def am_pad (n : Nat) (l : am_Ls) : am_Ls := l ++ List.replicate (n - l.length) none
noncomputable def am_call : Nat → am_C
  | 0 => fun _ _ _ => none
  | d + 1 => fun j as h => match am_ml[j]? with
    | some m => if (am_ent as).length ≤ m.2.2.1 then am_go0 (am_call d) j 0 (am_pad m.2.2.1 (am_ent as)) [] h else none
    | none => none
