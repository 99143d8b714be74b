/-! Calls. -/
set_option maxRecDepth 20000 in
theorem am_all_p : am_cp.map (fun i => lw_tbl[i]?) = am_ml.dropLast.map (fun m => some (Cond.code m.1 m.2.1 m.2.2.1 m.2.2.2.1)) := by
  simp only [am_cp, am_ml, List.map_cons, List.map_nil, List.dropLast, am_w0, am_w1, am_w2, am_w3, am_w4, am_w5, am_w6, am_w7, am_w8, am_w9, am_w10, am_w11, am_w12, am_w13, am_w14, am_w15, am_w16, am_w17, am_w18, am_w19, am_w20, am_w21, am_w22, am_w23, am_w24, am_w25, am_w26, am_w27, am_w28, am_w29, am_w30, am_w31, am_w32, am_w33, am_w34, am_w35, am_w36, am_w37, am_w38, am_w39, am_w40, am_w41, am_w42, am_w43, am_w44, am_w45, am_w46, am_w47, am_w48, am_w49, am_w50, am_w51, am_w52, am_w53, am_w54, am_w55, am_w56, am_w57, am_w58, am_w59, am_w60, am_w61, am_w62, am_w63, am_w64, am_w65, am_w66, am_w67, am_w68, am_w69, am_w70, am_w71, am_w72, am_w73, am_w74, am_w75, am_w76, am_w77, am_w78, am_w79, am_w80, am_w81, am_w82, am_w83, am_w84, am_w85, am_w86, am_w87, am_w88, am_w89, am_w90, am_w91, am_w92, am_w93, am_w94, am_w95, am_w96, am_w97, am_w98, am_w99, am_w100, am_w101, am_w102, am_w103, am_w104, am_w105, am_w106, am_w107, am_w108, am_w109, am_w110, am_w111, am_w112, am_w113, am_w114, am_w115, am_w116, am_w117, am_w118, am_w119, am_w120, am_w121, am_w122, am_w123, am_w124, am_w125, am_w126, am_w127, am_w128, am_w129, am_w130, am_w131, am_w132, am_w133, am_w134, am_w135, am_w136, am_w137, am_w138, am_w139, am_w140, am_w141, am_w142, am_w143, am_w144, am_w145, am_w146, am_w147, am_w148, am_w149, am_w150, am_w151, am_w152, am_w153, am_w154, am_w155, am_w156, am_w157, am_w158, am_w159, am_w160, am_w161, am_w162, am_w163, am_w164, am_w165, am_w166, am_w167, am_w168, am_w169, am_w170, am_w171, am_w172, am_w173, am_w174, am_w175, am_w176, am_w177, am_w178, am_w179, am_w180, am_w181, am_w182]
theorem am_code_in {j : Nat} {mt : am_M} (h : am_ml[j]? = some mt) (ho : mt.2.2.2.2 ≠ 10) : Cond.code mt.1 mt.2.1 mt.2.2.1 mt.2.2.2.1 ∈ lw_tbl := by
  have hl := (List.getElem?_eq_some_iff.mp h).1
  rw [am_all_l.2.2.2] at hl
  have h183 : j ≠ 183 := by
    intro e
    subst e
    cases h
    exact ho rfl
  have h1 : (am_ml.dropLast)[j]? = some mt := by
    rw [List.getElem?_dropLast, am_all_l.2.2.2, if_pos (by omega)]
    exact h
  have h2 : (am_cp.map (fun i => lw_tbl[i]?))[j]? = some (some (Cond.code mt.1 mt.2.1 mt.2.2.1 mt.2.2.2.1)) := by
    rw [am_all_p, List.getElem?_map, h1]; rfl
  rw [List.getElem?_map] at h2
  cases hi : am_cp[j]? with
  | none => rw [hi] at h2; cases h2
  | some i => rw [hi] at h2; exact List.mem_of_getElem? (Option.some.inj h2)
def am_ws (mt : am_M) : List Cond := Cond.code mt.1 mt.2.1 mt.2.2.1 mt.2.2.2.1 :: am_tb
theorem am_good {j : Nat} {mt : am_M} (h : am_ml[j]? = some mt) (ho : mt.2.2.2.2 ≠ 10) : GoodIn am_tb (am_ws mt) := by
  have hc : Cond.code mt.1 mt.2.1 mt.2.2.1 mt.2.2.2.1 ∈ am_tb := am_in_tb (am_code_in h ho) rfl
  intro w hw
  have hm : w ∈ am_tb := by
    rcases List.mem_cons.mp hw with rfl | hw
    · exact hc
    · exact hw
  exact ⟨hm, good_of_word (List.mem_filter.mp hm).2⟩
def am_rm (d mc ms : Nat) : Room := { frames := d + 1, cells := mc, slots := ms, locals := 37 * d + 22 }
def am_Pc (base b : Nat) (D : va_G) (dA : Nat → ClassId) (as : List am_V) (h : am_H) : Array Value → State → Prop := fun a U => a = (as.map (am_re base b)).toArray ∧ am_P base b D dA h U.heap ∧ am_K D dA U ∧ am_rgH h ∧ am_rgS as ∧ am_Nst U ∧ (∃ n, h.1[0]? = some (9, n)) ∧ base < U.heap.size
def am_Qc (base b : Nat) (D : va_G) (dA : Nat → ClassId) (v : Option am_V) (h : am_H) : Array Value → State → Outcome → State → Prop := fun _ st o t => o = .returned (v.map (am_re base b)) ∧ am_P base b D dA h t.heap ∧ am_rgH h ∧ (∀ x, v = some (.inl x) → am_rg x) ∧ va_F (fun q => base < q) st t
theorem am_Nst.same {u U : State} (h : u.vm = U.vm) (q : am_Nst u) : am_Nst U := ⟨va_Nw.same rfl h q.1, va_Nw.same rfl h q.2⟩
theorem am_Nst.warm {s U : State} (hW : s.WarmedH U.vm) (q : am_Nst s) : am_Nst U := ⟨va_Nw.warmM hW q.1, va_Nw.warmM hW q.2⟩
theorem am_blind {base b : Nat} {D : va_G} {dA : Nat → ClassId} {as : List am_V} {h : am_H} : FrameBlind (am_Pc base b D dA as h) := by
  intro a U g mk q
  obtain ⟨q1, q2, q3, q4, q5, q6, q7, q8⟩ := q
  exact ⟨q1, q2, am_K.moved (u := U) (U := U.calling g mk a) (Vm.Alike.refl U.vm) q3, q4, q5, am_Nst.same (u := U) (U := U.calling g mk a) rfl q6, q7, q8⟩
/-- every method at a depth keeps its contract -/
def am_Sd (d : Nat) : Prop := ∀ (j : Nat) (as : List am_V) (h : am_H) (v : Option am_V) (h' : am_H), am_call d j as h = some (v, h') → ∀ mt : am_M, am_ml[j]? = some mt → mt.2.2.2.2 ≠ 10 → ∀ (l : Launch) (base b : Nat) (D : va_G) (dA : Nat → ClassId), Met l mt.1 (am_ws mt) (am_rm (d - 1) (h'.1.length - h.1.length) (am_sz h'.1 - am_sz h.1)) (am_Pc base b D dA as h) (am_Qc base b D dA v h') (h'.1.length - h.1.length) (am_sz h'.1 - am_sz h.1) (fun q => base < q)
theorem am_split_eq : ∀ (n : Nat) (acc st as r : List am_V), am_split n acc st = some (as, r) → ∃ y, as = y ++ acc ∧ st = y.reverse ++ r ∧ y.length = n := by
  intro n
  induction n with
  | zero => intro acc st as r h; cases h; exact ⟨[], rfl, rfl, rfl⟩
  | succ n ih =>
    intro acc st as r h
    cases st with
    | nil => cases h
    | cons v st =>
      obtain ⟨y, e1, e2, e3⟩ := ih (v :: acc) st as r h
      refine ⟨y ++ [v], by rw [e1]; simp, by rw [e2]; simp, by simp [e3]⟩
theorem am_words_eq (base b : Nat) (r : List am_V) : ((r.map (am_re base b)).map fun v => v.category).sum = am_words r := by
  unfold am_words
  rw [List.map_map]
  congr 1
  exact List.map_congr_left (fun v _ => am_re_cat base b v)
section AMC
variable {p : Program} {l : Launch} {e : Env} {R : Room} {s : State} {m : MethodId} {args : Array Value} {below : List Frame} {meth : Method} {c : Code} {Q : State → Prop} {mt : am_M} {base b n0 z0 : Nat} {D : va_G} {dA : Nat → ClassId} {H : Heap} {locs : List Loc} {cells slots : Nat} {pc : Nat} {h h2 : am_H} {sl : Array Slot}
theorem am_callW {mc ms : Nat} {st0 rest : List Value} {a : Array Value} {v : Option am_V} (hrun : va_Run p l e R s m args below meth c H locs cells slots mc ms (F0 m pc sl st0) rest (am_Qc base b D dA v h2 a) (fun q => base < q)) (hr : am_Rp base b D dA s n0 z0 h H locs cells slots) (hmc : mc = h2.1.length - h.1.length) (hms : ms = am_sz h2.1 - am_sz h.1) (hle : am_le h h2)
    (kk : ∀ (H1 : Heap) (locs1 : List Loc), am_Rp base b D dA s n0 z0 h2 H1 locs1 (cells + mc) (slots + ms) → (∀ x, v = some (.inl x) → am_rg x) → W p l e R s m args below meth c H1 locs1 (cells + mc) (slots + ms) Q (F0 m (pc + 3) sl ((v.map (am_re base b)).toList ++ rest))) : W p l e R s m args below meth c H locs cells slots Q (F0 m pc sl st0) := by
  intro T hT X
  obtain ⟨v', st₀, t, T', L, h0, X', hL, e1, e2, ⟨ho, hP, hrg, hv, hz, hk⟩, st⟩ := hrun T hT X
  cases ho
  rw [h0] at hz hk
  obtain ⟨a1, a2, a3, a4, a5, ⟨n, a6⟩, a7⟩ := hr
  have hRp : am_Rp base b D dA s n0 z0 h2 T'.heap (locs ++ L) (cells + mc) (slots + ms) := by
    refine ⟨by rw [e1]; exact hP, ⟨Nat.le_trans a2.1 (by rw [e1]; exact hz), fun q h1 h3 => by rw [e1, hk q (Nat.lt_of_lt_of_le h1 a2.1) h3]; exact a2.2.1 q h1 h3, fun q hq => ?_⟩, ?_, ?_, hrg, ⟨n, (hle.2.2 n a6).1⟩, a7⟩
    · rcases List.mem_append.mp hq with h9 | h9
      · exact a2.2.2 q h9
      · exact hL q h9
    · have := hle.1; omega
    · have := hle.2.1; omega
  obtain ⟨t2, b1, b2⟩ := kk T'.heap (locs ++ L) hRp hv T' rfl X'
  exact ⟨t2, st t2 b1, b2⟩
theorem am_PcU {as : List am_V} (K : am_K D dA s) (N : am_Nst s) (hr : am_Rp base b D dA s n0 z0 h H locs cells slots) (has : am_rgS as) {a : Array Value} (ha : a = (as.map (am_re base b)).toArray) : ∀ U : State, U.heap = H → s.WarmedH U.vm → am_Pc base b D dA as h a U := by
  intro U hU hW
  obtain ⟨a1, a2, a3, a4, a5, a6, a7⟩ := hr
  exact ⟨ha, by rw [hU]; exact a1, am_K.moved hW.alike K, a5, has, am_Nst.warm hW N, a6, by rw [hU]; exact Nat.lt_of_lt_of_le a7 a2.1⟩
end AMC
