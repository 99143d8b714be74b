/-! What the tables owe the words of the Statement, decided. -/
def am_at (p : Nat) (w : Cond) : Bool := decide (lw_tbl[p]? = some w)
def am_okc (c : Nat) : Bool := match am_cl[c]?, am_yl[c]?, am_fts[c]? with
  | some (C, T, N), some ty, some ft => decide (ft.length = N) && decide (Cond.instantiable C N ∈ lw_tbl) && decide (Cond.initialized C ∈ lw_tbl)
    && (List.range N).all (fun f => decide (parseFieldDescriptor (T f).2.2.1 = some (ty f)) && decide ((T f).1 = C) && (match ft[f]?, ty f, (T f).2.2.2 with
      | some 0, .int, false => true
      | some 1, .long, false => true
      | some 2, .object _, true => true
      | some 2, .array _, true => true
      | _, _, _ => false))
    && (List.range N).all (fun a => (List.range N).all (fun b => decide (a = b) || decide ((T a).2.1 ≠ (T b).2.1)))
  | _, _, _ => false
def am_okf (q : Nat × Nat × Nat) (p : Nat) : Bool := match am_cn[q.1 / 1000]?, am_cl[q.2.1]? with
  | some own, some (C, T, N) => decide (q.2.2 < N) && am_at p (Cond.fieldLink own (q.1 % 1000) C (T q.2.2).2.1 (T q.2.2).2.2.1)
  | _, _ => false
def am_okk (q : Nat × Nat × Nat × Nat) (p : Nat × Nat × Nat) : Bool := match am_cn[q.1 / 1000]? with
  | some own => if q.2.1 = 4 then am_at p.1 (Cond.methodLink own (q.1 % 1000) objectInit) && decide (q.2.2.2 = 0) else if q.2.1 = 5 then am_at p.1 (Cond.methodLink own (q.1 % 1000) Lib.Math.max.name) && decide (q.2.2.2 = 2) else decide (q.2.2.1 ≠ 183) && (match am_ml[q.2.2.1]? with
    | some m => decide ((parseMethodDescriptor m.1.desc).map (fun d => d.parameters.length) = some q.2.2.2) && decide (m.2.2.2.2 ≠ 10) && (match q.2.1 with
      | 0 => am_at p.1 (Cond.methodLink own (q.1 % 1000) m.1) && am_at p.2.1 (Cond.instanceMethod m.1) && am_at p.2.2 (Cond.selects m.1.cls m.1 m.1) && decide ((am_cl[m.2.2.2.2]?).map (fun q => q.1) = some m.1.cls)
      | 1 => am_at p.1 (Cond.methodLink own (q.1 % 1000) m.1) && am_at p.2.1 (Cond.static m.1)
      | 2 => am_at p.1 (Cond.methodLink own (q.1 % 1000) m.1) && am_at p.2.1 (Cond.instanceMethod m.1) && decide (m.1.name = "<init>") && decide (m.2.2.2.1 = none)
      | 3 => decide (own = "DictionaryTerms") && (decide (q.1 % 1000 = 43 ∧ m.1 = ⟨"DictionaryTerms$Values", "<init>", "()V"⟩) || decide (q.1 % 1000 = 59 ∧ m.1 = ⟨"DictionaryTerms$Report", "<init>", "()V"⟩)) && am_at p.1 (Cond.methodLinkNest own (q.1 % 1000) m.1 "DictionaryTerms") && am_at p.2.1 (Cond.instanceMethod m.1) && decide (m.1.name = "<init>") && decide (m.2.2.2.1 = none)
      | _ => false)
    | none => false)
  | none => false
def am_okm (m : am_M) : Bool := plainName m.1.cls && decide (m.1.cls ≠ "java/lang/invoke/MethodHandle") && decide (m.1.cls ≠ "java/lang/invoke/VarHandle") && decide (am_cn[m.2.2.2.2]? = some m.1.cls) && decide (m.2.2.1 ≤ 18)
def am_okn (q : Nat × Nat) : Bool := match am_cn[q.1 / 1000]?, am_cl[q.2]? with
  | some own, some (C, _, _) => decide (Cond.classLink own (q.1 % 1000) C ∈ lw_tbl)
  | _, _ => false
def am_ok1 (q : Nat × Int) : Bool := match am_cn[q.1 / 1000]? with
  | some own => decide (Cond.constant own (q.1 % 1000) (Int32.ofInt q.2) ∈ lw_tbl) && decide (-2147483648 ≤ q.2) && decide (q.2 ≤ 2147483647)
  | _ => false
theorem am_all_c : (List.range 10).all am_okc = true := by decide +kernel
theorem am_all_u : (List.range 10).all (fun c => match am_cl[c]? with
  | some (C, T, N) => (u_ws C T N).all (fun w => decide (w ∈ lw_tbl))
  | _ => false) = true := by decide +kernel
theorem am_all_f : (am_fl.zip am_fp).all (fun q => am_okf q.1 q.2) = true := by decide +kernel
theorem am_all_k1 : ((am_mk.zip am_kp).take 110).all (fun q => am_okk q.1 q.2) = true := by decide +kernel
theorem am_all_k2 : ((am_mk.zip am_kp).drop 110).all (fun q => am_okk q.1 q.2) = true := by decide +kernel
theorem am_all_l : am_mk.length = am_kp.length ∧ am_fl.length = am_fp.length ∧ am_cp.length = 183 ∧ am_ml.length = 184 := by decide +kernel
theorem am_all_m : am_ml.all am_okm = true := by decide +kernel
theorem am_all_i : am_cn.all (fun C => decide (Cond.initialized C ∈ lw_tbl)) = true := by decide +kernel
theorem am_all_n : am_ck.all am_okn = true := by decide +kernel
theorem am_all_1 : am_kk.all am_ok1 = true := by decide +kernel
theorem am_all_x1 : lw_tbl[am_xp.1]? = some (Cond.static Lib.Math.max.name) := by decide +kernel
theorem am_all_x2 : lw_tbl[am_xp.2.1]? = some (Cond.code Lib.Math.max.name Lib.Math.max.code 2 (some .int)) := by decide +kernel
theorem am_all_x3 : lw_tbl[am_xp.2.2]? = some (Cond.code objectInit ⟨#[0xb1]⟩ 1 none) := by decide +kernel
theorem am_all_t : Cond.arrayClass .int ∈ lw_tbl ∧ Cond.arrayClass .long ∈ lw_tbl ∧ Cond.arrayClass .boolean ∈ lw_tbl ∧ Cond.instanceMethod objectInit ∈ lw_tbl ∧ Cond.initialized "java/lang/Math" ∈ lw_tbl := by decide +kernel
