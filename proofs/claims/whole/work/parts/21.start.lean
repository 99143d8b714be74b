/-! THE CLAIM OUT OF ONE WALK OF THE LAW'S BODY. Your part is whole_start (and what it stands on); all else here is the same for every law, but numbers. -/
def R_law : String := "DictionaryTermsLaw"
def lw_P (b : Addr) (xs : List Int32) (args : Array Value) (s : State) : Prop := args = #[.ref b] ∧ s.IntsAt b xs ∧ xs.length ≤ 2560 ∧ (Jvm.Cond.and given_1 narrow_1).before args s = true
def lw_Q (_ : Array Value) (s : State) (o : Outcome) (t : State) : Prop := o = .returned (some (.int 1)) ∧ Framed s o t [] 94 11538
def lw_Z (below : List Frame) (a : Array Value) (s : State) : State → Prop := fun t => ∃ o, t.status = .running ∧ Ended t below o ∧ lw_Q a s o t
/-- the law's own end, with 1 on the stack, nothing written that was there before, its room as the claim has it -/
theorem lw_ret {p : Program} {l : Launch} {e : Env} {s : State} {m : MethodId} {below : List Frame} {meth : Method} {c : Code} {b : Nat} (hx : p.tables.exec = Jvm.exec) (hb : c.code = code) (hr : meth.sig.returnType = ret) (hlocks : meth.locks = false) {pc : Nat} {H : Heap} {ls : Array Slot} (hdg : decode code pc = .ok (.ireturn, 1)) : W p l e room_1 s m #[Value.ref b] below meth c H [] 94 11538 (lw_Z below #[Value.ref b] s) (F0 m pc ls [.int 1]) := by
  intro T hT X
  obtain ⟨fs, hret, hrun, hended, hW, hframe⟩ := X.leave (v := some (.int 1)) (hlocks := hlocks) (fun h => by rw [hr] at h; cases h)
  have hmeth' : T.vm.method? m = some meth := X.method'
  refine ⟨T.setFrames fs, ?_, .returned (some (.int 1)), hrun, hended, rfl, ⟨_, rfl⟩, hW, hframe⟩
  jvm_step X.here [X.here.top, hx, hb, hdg, hmeth', hr, ret, narrow_b1]
  (try refine ⟨rfl, ?_⟩); (try refine ⟨rfl, ?_⟩)
  first | (intro acts; rw [hret _ acts rfl rfl rfl]) | rw [hret _ _ rfl rfl rfl]
  exact Steps.refl _
/-- what holds at the law's entry: the machine, the code, the tables' words (any of lw_tbl by 'hts w (by decide +kernel)'), the script of L ints xs at the cell b, what the Statement gives of the start (any of its parts by flat_of_before) -/
def lw_At (p : Program) (s : State) (m : MethodId) (meth : Method) (c : Code) (b L : Nat) (xs : Nat → Int32) : Prop :=
  p.tables.exec = Jvm.exec ∧ c.code = code ∧ meth.sig.returnType = ret ∧ c.maxLocals = 4 ∧ s.vm.findClass R_law = some m.cls ∧ (∀ w ∈ lw_tbl, w.before #[Value.ref b] s = true) ∧ va_X b L xs s s.heap ∧ b < s.heap.size ∧ meth.locks = false ∧ (Jvm.Cond.and given_1 narrow_1).before #[Value.ref b] s = true

/-- the cells with which the law begins -/
def am_h0 (L : Nat) (xs : Nat → Int32) : am_H := ([(9, L)], fun _ _ => none, fun k j => if k = 0 then (xs j.toNat).toInt else 0, fun _ _ => 0)
/-- what is to be shown of the abstract machine -/
def am_Law (L : Nat) (xs : Nat → Int32) : Prop := ∃ h : am_H, h.1.length = 95 ∧ am_sz h.1 = 11541 ∧ am_go0 (am_call 9) 183 0 [some (.inr (.inr (some 0))), none, none, none] [] (am_h0 L xs) = some (some (.inl 1), h)
theorem am_known {s : State} {args : Array Value} (hts : ∀ w ∈ am_tb, w.before args s = true) : ∃ (D : va_G) (dA : Nat → ClassId), am_K D dA s := by
  have h1 : ∀ c : Nat, ∃ (cC : ClassId) (iS : Nat → Nat), ∀ q : vw_C, am_cl[c]? = some q → u_Kn s q.1 q.2.1 q.2.2 cC iS := by
    intro c
    by_cases hc : c < 10
    · obtain ⟨C, T, N, ty, e1, en, hu, hins, -⟩ := am_cls hc
      obtain ⟨cC, iS, h⟩ := u_known (T := T) hts hu (hts _ hins)
      refine ⟨cC, iS, fun q hq => ?_⟩
      rw [e1] at hq
      cases hq
      exact h
    · refine ⟨0, fun _ => 0, fun q hq => ?_⟩
      have := (List.getElem?_eq_some_iff.mp hq).1
      have h10 : am_cl.length = 10 := rfl
      omega
  have h2 : ∀ ty : FieldType, Cond.arrayClass ty ∈ am_tb → (∃ cA : ClassId, ArrOfT s cA ty ∧ s.vm.findClass ("[" ++ ty.toString) = some cA) := by
    intro ty hty
    obtain ⟨cA, kA, comp, hfind, hk, hkind⟩ := Cond.arrayClass_spec (hts _ hty)
    exact ⟨cA, fun n z => ⟨fun k h => (by cases h), kA, hk, comp, hkind⟩, hfind⟩
  obtain ⟨c0, a0, b0⟩ := h2 .int (am_in_tb am_all_t.1 rfl)
  obtain ⟨c1, a1, b1⟩ := h2 .long (am_in_tb am_all_t.2.1 rfl)
  obtain ⟨c2, a2, b2⟩ := h2 .boolean (am_in_tb am_all_t.2.2.1 rfl)
  refine ⟨(fun c => Classical.choose (h1 c), fun c => Classical.choose (Classical.choose_spec (h1 c))), fun k => if k = 0 then c0 else if k = 1 then c1 else c2, fun c q hq => Classical.choose_spec (Classical.choose_spec (h1 c)) q hq, fun k q hq => ?_⟩
  match k, hq with
  | 0, hq => cases hq; exact ⟨a0, b0⟩
  | 1, hq => cases hq; exact ⟨a1, b1⟩
  | 2, hq => cases hq; exact ⟨a2, b2⟩
  | k + 3, hq => simp at hq
theorem am_nest_in : Cond.methodLinkNest "DictionaryTerms" 43 ⟨"DictionaryTerms$Values", "<init>", "()V"⟩ "DictionaryTerms" ∈ lw_tbl ∧ Cond.methodLinkNest "DictionaryTerms" 59 ⟨"DictionaryTerms$Report", "<init>", "()V"⟩ "DictionaryTerms" ∈ lw_tbl := by decide +kernel
theorem am_ret_of {mt : am_M} {i : Instr} {n pc : Nat} {ls : am_Ls} {st : List am_V} {h : am_H} {y : am_Re} (hx : am_next mt i n pc ls st h = some (.inr (.inl y))) : i = .ireturn ∨ i = .lreturn ∨ i = .return_ := by
  cases i
  case ireturn => exact Or.inl rfl
  case lreturn => exact Or.inr (Or.inl rfl)
  case return_ => exact Or.inr (Or.inr rfl)
  case invokevirtual => exact (am_inv_ret hx).elim
  case invokestatic => exact (am_inv_ret hx).elim
  case invokespecial => exact (am_inv_ret hx).elim
  all_goals exfalso
  all_goals simp only [am_next] at hx
  all_goals first
    | (cases hx; done)
    | (obtain ⟨-, w⟩ := am_jmp_inv hx; cases w; done)
    | (unfold am_load am_go at hx; split at hx <;> cases hx; done)
    | (unfold am_store am_go at hx; split at hx <;> first | (cases hx; done) | (split at hx <;> cases hx; done))
    | (unfold am_bin am_go at hx; split at hx <;> cases hx; done)
    | (unfold am_binL am_go at hx; split at hx <;> cases hx; done)
    | (unfold am_ial am_go at hx; split at hx <;> first | (cases hx; done) | (split at hx <;> cases hx; done))
    | (unfold am_bal am_go at hx; split at hx <;> first | (cases hx; done) | (split at hx <;> cases hx; done))
    | (unfold am_lal am_go at hx; split at hx <;> first | (cases hx; done) | (split at hx <;> cases hx; done))
    | (unfold am_ias am_go at hx; split at hx <;> first | (cases hx; done) | (split at hx <;> cases hx; done))
    | (unfold am_bas am_go at hx; split at hx <;> first | (cases hx; done) | (split at hx <;> cases hx; done))
    | (unfold am_las am_go at hx; split at hx <;> first | (cases hx; done) | (split at hx <;> cases hx; done))
    | (unfold am_len am_go at hx; split at hx <;> first | (cases hx; done) | (split at hx <;> first | (cases hx; done) | (split at hx <;> cases hx; done)))
    | (unfold am_gf am_go at hx; split at hx <;> first | (cases hx; done) | (split at hx <;> first | (cases hx; done) | (split at hx <;> cases hx; done)))
    | (unfold am_pf am_go at hx; split at hx <;> first | (cases hx; done) | (split at hx <;> first | (cases hx; done) | (split at hx <;> first | (cases hx; done) | (split at hx <;> cases hx; done))))
    | (unfold am_new am_go at hx; split at hx <;> cases hx; done)
    | (unfold am_newa am_go at hx; split at hx <;> first | (cases hx; done) | (split at hx <;> cases hx; done))
    | (split at hx <;> first | (cases hx; done) | (obtain ⟨-, w⟩ := am_jmp_inv hx; cases w; done) | (split at hx <;> first | (cases hx; done) | (obtain ⟨-, w⟩ := am_jmp_inv hx; cases w; done)))
theorem am_start {p : Program} {e : Env} {s : State} {m : MethodId} {below : List Frame} {meth : Method} {c : Code} (l : Launch) {b L : Nat} {xs : Nat → Int32} (hlaw : am_Law L xs) (C0 : lw_At p s m meth c b L xs) : W p l e room_1 s m #[Value.ref b] below meth c s.heap [] 0 0 (lw_Z below #[Value.ref b] s) (entryFrame m ([Value.ref b] : List Value).toArray 4) := by
  obtain ⟨hx, hb, hr, hml, hown, hts, hX, hbl, hlocks, hgv⟩ := C0
  obtain ⟨h9, hl9, hz9, hrun⟩ := hlaw
  obtain ⟨n, hrun⟩ := am_go0_iff.mp hrun
  have htb : ∀ w ∈ am_tb, w.before #[Value.ref b] s = true := fun w hw => hts w (List.mem_filter.mp hw).1
  obtain ⟨D, dA, K⟩ := am_known htb
  have hm : am_ml[183]? = some (⟨"DictionaryTermsLaw", "law", "([I)Z"⟩, code, 4, (some .boolean), 10) := rfl
  have C : am_Cx p s m #[Value.ref b] meth c (⟨"DictionaryTermsLaw", "law", "([I)Z"⟩, code, 4, (some .boolean), 10) := ⟨hx, hb, hml, hown, htb, fun w => absurd w (by decide), ⟨va_Nw.of rfl (hts _ am_nest_in.1), va_Nw.of rfl (hts _ am_nest_in.2)⟩, List.mem_of_getElem? hm⟩
  obtain ⟨base, hbase⟩ : ∃ base, s.heap.size = base + 1 := ⟨s.heap.size - 1, by omega⟩
  have e0 : am_re base b (.inr (.inr (some 0))) = .ref b := rfl
  have has : am_rgS [.inr (.inr (some 0))] := fun x hx => by simp at hx
  have hent := am_entry base b 4 (as := [.inr (.inr (some 0))]) (by decide) has
  rw [lg_entry_eq]
  have hP : am_P base b D dA (am_h0 L xs) s.heap := by
    refine ⟨hbase, fun k q h0 hq => ?_⟩
    have : k < 1 := (List.getElem?_eq_some_iff.mp hq).1
    omega
  have hS : va_S (fun q => base < q) s.heap s.heap [] := va_S.rf
  have hrg : am_rgH (am_h0 L xs) := by
    intro k j
    show am_rg (if k = 0 then (xs j.toNat).toInt else 0)
    split
    · exact am_rg_to _
    · exact am_rg0
  have hXs : am_Xs (⟨"DictionaryTermsLaw", "law", "([I)Z"⟩, code, 4, (some .boolean), 10) b base s (am_h0 L xs) := by
    intro _ n hn
    cases hn
    refine ⟨?_, hbl, by omega⟩
    have e : (fun j : Nat => Int32.ofInt ((am_h0 L xs).2.2.1 0 j)) = xs := by
      funext j
      show Int32.ofInt (if (0 : Nat) = 0 then (xs ((j : Int).toNat)).toInt else 0) = xs j
      rw [if_pos rfl, Int32.ofInt_toInt, Int.toNat_natCast]
    rw [e]
    exact hX
  have hz0 : am_sz [(9, L)] = 3 := rfl
  refine am_runW (base := base) (b := b) (n0 := 1) (z0 := 3) (R := room_1) (am_sound 9) hm C K ⟨by decide, by decide⟩ (some (.inl 1), h9) ⟨by show h9.1.length ≤ 1 + 94; omega, by show am_sz h9.1 ≤ 3 + 11538; omega⟩ ?_ n 0 _ [] (am_h0 L xs) hrun hXs _ s.heap [] 0 0 hent (fun x hx => by cases hx) ⟨hP, hS, rfl, hz0.symm, hrg, ⟨L, rfl⟩, by omega⟩
  intro pc i k ls st h8 sl H locs cells slots hd hlok hx9 hrp hst
  obtain ⟨a1, a2, a3, a4, a5, a6, a7⟩ := hrp
  rcases am_ret_of hx9 with rfl | rfl | rfl
  · have hk1 : k = 1 := by simpa [am_lok] using hlok
    subst hk1
    simp only [am_next, am_ret] at hx9
    split at hx9
    · next z hz => cases hz
    · next z hz =>
      split at hx9
      · cases hx9
        have f1 : cells ≤ 94 := by omega
        have f2 : slots ≤ 11538 := by omega
        refine va_forget (fun q hq => by have := a2.2.2 q hq; omega) ?_
        refine W.widen (k := 94) (n := 11538) f1 f2 ?_
        exact lw_ret hx hb hr hlocks hd
      · cases hx9
    · cases hx9
  · simp only [am_next] at hx9
    cases hx9
  · simp only [am_next] at hx9
    cases hx9
