/-! The law of the abstract machine. -/
theorem am_all_at {n : Nat} {g : Int → Int} {v : Int} (h : am_all n g v = true) : ∀ c : Int, 0 ≤ c → c < (n : Int) → g c = v := by
  intro c c0 c1
  unfold am_all at h
  have h1 := List.all_eq_true.mp h c.toNat (List.mem_range.mpr (by omega))
  have h2 := of_decide_eq_true h1
  rw [show ((c.toNat : Nat) : Int) = c by omega] at h2
  exact h2
theorem am_rel0 {I : Nat → Int → Int} (L : Nat → Int → Int64) (h : am_fI I = true) : am_Rel I L := by
  unfold am_fI at h
  simp only [Bool.and_eq_true, decide_eq_true_eq, and_assoc] at h
  obtain ⟨c12, c14, c18, c21, f1, f2, f3, f4, f5, f6, f7, f8, f9, f10, f11, f12, f13, f14, f15, f16, f17, f18, f19, f20, f21, f22, f23, f24, f25, f26, f27, f28, f29, f30, f31, f32, f33, f34, f35, f36, f37⟩ := h
  have c12 := am_all_at c12
  have c14 := am_all_at c14
  have c18 := am_all_at c18
  have c21 := am_all_at c21
  refine ⟨⟨by omega, by omega, by omega, fun c c0 c1 => by omega, by omega, by omega, by omega, fun t t0 t1 => ?_, fun t t0 t1 => by omega, ⟨f5, f7, f9, f11⟩, ⟨f6, f8, f10, f12⟩⟩, ⟨by omega, by omega, by omega, fun c c0 c1 => by omega, fun c c0 c1 => ⟨c12 c (by omega) (by omega), fun k k0 k1 => c14 _ (by omega) (by omega)⟩⟩, ⟨by omega, by omega, by omega, fun c c0 c1 => by omega, fun c c0 c1 => ⟨c18 c (by omega) (by omega), fun k k0 k1 => c21 _ (by omega) (by omega)⟩⟩, ⟨by omega, by omega, by omega, fun n n0 n1 => by omega⟩, ⟨fun c c0 c1 => by omega, fun c c0 c1 => by omega⟩, am_RD_none f27 f28, am_RM_none f27, ⟨f29, f30, f31, f32, f33, f34, by omega, by omega, fun k k0 k1 => by omega⟩, f36, f37, fun t t0 t1 => by omega⟩
  by_cases q : t = 0
  · rw [q]; exact ⟨by omega, by omega, by omega, Or.inr (Or.inl ⟨f11, f19⟩)⟩
  · have q : t = 1 := by omega
    rw [q]; exact ⟨by omega, by omega, by omega, Or.inr (Or.inr ⟨f12, Or.inl f20⟩)⟩
theorem am_Rel_ph {I : Nat → Int → Int} {L : Nat → Int → Int64} (h : am_Rel I L) (x : Int → Int) : am_Rel (fun k j => if k = 0 then x j else I k j) L := h
theorem am_fts_60 : ∀ l ∈ am_fts, l.length ≤ 60 := by decide +kernel
theorem am_gr_60 : am_gr.length = 95 ∧ ∀ l ∈ am_gr, l.length ≤ 60 := by decide +kernel
theorem am_RG0 {S : List (Nat × Nat)} {R : Nat → Int → Option Nat} {I : Nat → Int → Int} {L : Nat → Int → Int64} (hk : am_okh (S, R, I, L)) (hS : S = am_GS 0) (hR : am_fR R = true) : R = am_GR := by
  funext k f
  have none_of : ¬ (k < 95 ∧ 0 ≤ f ∧ f < 60) → R k f = none := fun hn => by
    cases hr : R k f with
    | none => rfl
    | some a =>
      exfalso
      obtain ⟨f0, c, n, e1, e2⟩ := hk.2 k f (by show R k f ≠ none; rw [hr]; intro z; cases z)
      have e1 : S[k]? = some (c + 3, n) := e1
      have hl := (List.getElem?_eq_some_iff.mp e1).1
      rw [hS] at hl
      have h95 : (am_GS 0).length = 95 := rfl
      rw [h95] at hl
      have h60 : f < 60 := by
        unfold am_ft at e2
        cases hc : am_fts[c]? with
        | none => rw [hc] at e2; cases e2
        | some l =>
          rw [hc] at e2
          have hll := am_fts_60 l (List.mem_of_getElem? hc)
          have e2 : l[f.toNat]?.getD 9 = 2 := e2
          cases hq : l[f.toNat]? with
          | none => rw [hq] at e2; cases e2
          | some w => have := (List.getElem?_eq_some_iff.mp hq).1; omega
      exact hn ⟨hl, f0, h60⟩
  by_cases hn : k < 95 ∧ 0 ≤ f ∧ f < 60
  · obtain ⟨k1, f0, f1⟩ := hn
    unfold am_fR at hR
    have h1 := List.all_eq_true.mp hR k (List.mem_range.mpr k1)
    have h2 := List.all_eq_true.mp h1 f.toNat (List.mem_range.mpr (by omega))
    have ef : ((f.toNat : Nat) : Int) = f := by omega
    simp only [ef] at h2
    by_cases q : am_rfd k f.toNat = true
    · rw [if_pos q] at h2
      exact eq_of_beq h2
    · rw [if_neg q] at h2
      have h3 : am_GR k f = none := eq_of_beq h2
      rw [h3]
      cases hr : R k f with
      | none => rfl
      | some a =>
        exfalso
        obtain ⟨_, c, n, e1, e2⟩ := hk.2 k f (by show R k f ≠ none; rw [hr]; intro z; cases z)
        have e1 : S[k]? = some (c + 3, n) := e1
        apply q
        unfold am_rfd
        rw [← hS, e1]
        show (Nat.ble 3 (c + 3) && (am_ft (c + 3 - 3) f.toNat == 2)) = true
        rw [show c + 3 - 3 = c by omega, e2]
        have : Nat.ble 3 (c + 3) = true := Nat.ble_eq.mpr (by omega)
        rw [this]
        rfl
  · rw [none_of hn]
    unfold am_GR
    by_cases f0 : f < 0
    · rw [if_pos f0]
    · rw [if_neg f0]
      cases hc : am_gr[k]? with
      | none => rfl
      | some l =>
        have hkl := (List.getElem?_eq_some_iff.mp hc).1
        rw [am_gr_60.1] at hkl
        have hll := am_gr_60.2 l (List.mem_of_getElem? hc)
        cases hq : l[f.toNat]? with
        | none => show none = (l[f.toNat]?).join; rw [hq]; rfl
        | some w =>
          have := (List.getElem?_eq_some_iff.mp hq).1
          exact absurd ⟨hkl, by omega, by omega⟩ hn
theorem am_h0_new (N : Nat) (xs : Nat → Int32) : (([(9, N)] ++ [(11, 0)], am_zR (fun _ _ => none) 1, am_zI (fun k j => if k = 0 then (xs j.toNat).toInt else 0) 1, am_zL (fun _ _ => 0) 1) : am_H) = am_ph N (fun j => (xs j.toNat).toInt) am_hA := by
  have e1 : am_zR (fun _ _ => none) 1 = fun _ _ => none := by
    funext k j; unfold am_zR; by_cases q : k = 1
    · rw [if_pos q]
    · rw [if_neg q]
  have e2 : am_zI (fun k j => if k = 0 then (xs j.toNat).toInt else 0) 1 = fun k j => if k = 0 then (xs j.toNat).toInt else 0 := by
    funext k j; unfold am_zI; by_cases q : k = 1
    · rw [if_pos q, if_neg (by omega)]
    · rw [if_neg q]
  have e3 : am_zL (fun _ _ => 0) 1 = fun _ _ => 0 := by
    funext k j; unfold am_zL; by_cases q : k = 1
    · rw [if_pos q]
    · rw [if_neg q]
  rw [e1, e2, e3]
  rfl
noncomputable abbrev am_h183 (N : Nat) (i : Int) (I : Nat → Int → Int) (L : Nat → Int → Int64) : Option am_Re := am_go0 (am_call 9) 183 18 [some (.inr (.inr (some 0))), some (.inr (.inr (some 1))), some (.inr (.inr (some 53))), some (.inl i)] [] (am_GS N, am_GR, I, L)
theorem am_begin (N : Nat) (xs : Nat → Int32) : ∃ (I : Nat → Int → Int) (L : Nat → Int → Int64), am_go0 (am_call 9) 183 0 [some (.inr (.inr (some 0))), none, none, none] [] (am_h0 N xs) = am_h183 N 0 I L ∧ am_Rel I L := by
  have hA := am_fA_ok
  have hB := am_fB_ok
  unfold am_r2 at hB
  have okA : am_okh am_hA := ⟨rfl, fun k f h => absurd rfl h⟩
  cases h1 : am_r1 with
  | none => rw [h1] at hA; cases hA
  | some w =>
    obtain ⟨v, g⟩ := w
    cases v with
    | some v => rw [h1] at hA; cases hA
    | none =>
      rw [h1] at hA hB
      have hl : g.1.length = 53 := of_decide_eq_true hA
      obtain ⟨p1, okB⟩ := am_ph_rc N (fun j => (xs j.toNat).toInt) 1000 9 111 _ am_hA none g (by decide) okA h1
      obtain ⟨S, R, I, L⟩ := g
      have hl : S.length = 53 := hl
      have okC : am_okh (am_nwM (S, R, I, L)) := am_okh_fresh okB (12, 0) _ _
      have hB : am_chkB (am_rc 1000 9 133 [.inr (.inr (some 53))] (am_nwM (S, R, I, L))) = true := hB
      cases h2 : am_rc 1000 9 133 [.inr (.inr (some 53))] (am_nwM (S, R, I, L)) with
      | none => rw [h2] at hB; cases hB
      | some w =>
        obtain ⟨v, g⟩ := w
        cases v with
        | some v => rw [h2] at hB; cases hB
        | none =>
          rw [h2] at hB
          obtain ⟨p2, okD⟩ := am_ph_rc N (fun j => (xs j.toNat).toInt) 1000 9 133 _ (am_nwM (S, R, I, L)) none g (by decide) okC h2
          obtain ⟨S2, R2, I2, L2⟩ := g
          have hB : (decide (S2 = am_GS 0) && (am_fR R2 && am_fI I2)) = true := hB
          simp only [Bool.and_eq_true, decide_eq_true_eq] at hB
          obtain ⟨b1, b2, b3⟩ := hB
          have eR := am_RG0 okD b1 b2
          have c1 := am_rc_call 1000 9 111 _ _ _ p1
          have c2 := am_rc_call 1000 9 133 _ _ _ p2
          have ef := am_ph_fresh N (fun j => (xs j.toNat).toInt) R I L okB.1 (12, 0)
          have el : ((9, N) :: S.tail).length = 53 := by
            rw [← hl]
            have h0 : S[0]? = some (9, 0) := okB.1
            cases S with
            | nil => cases h0
            | cons a T => rfl
          have e2 : am_ph N (fun j => (xs j.toNat).toInt) (S2, R2, I2, L2) = (am_GS N, am_GR, (fun k j => if k = 0 then (xs j.toNat).toInt else I2 k j), L2) := by
            rw [b1, eR]; rfl
          rw [e2] at c2
          have ef : am_ph N (fun j => (xs j.toNat).toInt) (am_nwM (S, R, I, L)) = _ := ef
          rw [ef, el] at c2
          refine ⟨_, L2, ?_, am_Rel_ph (am_rel0 L2 b3) (fun j => (xs j.toNat).toInt)⟩
          unfold am_h0 am_h183
          rw [s_183_0]
          have en := am_h0_new N xs
          rw [show ([(9, N)] : List (Nat × Nat)).length = 1 from rfl, en]
          simp only [s_183_3, s_183_4, am_bd_s, c1, Option.toList, List.nil_append, s_183_7, am_c1]
          have e3 : am_ph N (fun j => (xs j.toNat).toInt) (S, R, I, L) = ((9, N) :: S.tail, R, (fun k j => if k = 0 then (xs j.toNat).toInt else I k j), L) := rfl
          rw [e3, s_183_8, el]
          simp only [s_183_11, s_183_12, am_bd_s, c2, Option.toList, List.nil_append, s_183_15, s_183_16, s_183_17, am_c1]
/-- what a call answers with -/
theorem am_res {mt : am_M} {i : Instr} {n pc : Nat} {ls : am_Ls} {st : List am_V} {h : am_H} {y : am_Re} (hx : am_next mt i n pc ls st h = some (.inr (.inl y))) : (mt.2.2.2.1 = some .int → ∃ x, y.1 = some (.inl x)) ∧ (mt.2.2.2.1 = some .long → ∃ x, y.1 = some (.inr (.inl x))) := by
  rcases am_ret_of hx with e | e | e
  · subst e
    replace hx : am_ret mt.2.2.2.1 st h = _ := hx
    unfold am_ret at hx
    split at hx
    · next e => cases hx; exact ⟨fun _ => ⟨_, rfl⟩, (fun w => by rw [e] at w; cases w)⟩
    · next e => split at hx <;> cases hx; exact ⟨fun _ => ⟨_, rfl⟩, (fun w => by rw [e] at w; cases w)⟩
    · cases hx
  · subst e
    simp only [am_next] at hx
    split at hx
    · next e => cases hx; exact ⟨(fun w => by rw [e] at w; cases w), fun _ => ⟨_, rfl⟩⟩
    · cases hx
  · subst e
    simp only [am_next] at hx
    split at hx
    · next e => cases hx; exact ⟨(fun w => by rw [e] at w; cases w), (fun w => by rw [e] at w; cases w)⟩
    · cases hx
theorem am_res_run {cl : am_C} {j : Nat} {m : am_M} (hm : am_ml[j]? = some m) : ∀ (f pc : Nat) (ls : am_Ls) (st : List am_V) (h : am_H) (r : am_Re), am_run cl j f pc ls st h = some r → (m.2.2.2.1 = some .int → ∃ x, r.1 = some (.inl x)) ∧ (m.2.2.2.1 = some .long → ∃ x, r.1 = some (.inr (.inl x))) := by
  intro f
  induction f with
  | zero => intro pc ls st h r q; cases q
  | succ f ih =>
    intro pc ls st h r q
    unfold am_run at q
    cases hx : am_one j pc ls st h with
    | none => rw [hx] at q; cases q
    | some y =>
      rw [hx] at q
      match y, q, hx with
      | .inl (pc2, ls2, st2, h2), q, hx => exact ih pc2 ls2 st2 h2 r q
      | .inr (.inl w), q, hx =>
        cases q
        unfold am_one at hx
        rw [hm] at hx
        cases hc : am_code j pc with
        | none => rw [hc] at hx; cases hx
        | some c =>
          obtain ⟨i, nn⟩ := c
          rw [hc] at hx
          exact am_res hx
      | .inr (.inr (j2, as, pc2, ls2, r2, h2)), q, hx =>
        have q : (match cl j2 as h2 with | none => none | some (v, h') => am_run cl j f pc2 ls2 (v.toList ++ r2) h') = some r := q
        cases hz : cl j2 as h2 with
        | none => rw [hz] at q; cases q
        | some w =>
          obtain ⟨v, h3⟩ := w
          rw [hz] at q
          exact ih pc2 ls2 (v.toList ++ r2) h3 r q
theorem am_res_call {d j : Nat} {m : am_M} {as : List am_V} {h h2 : am_H} {v : Option am_V} (hm : am_ml[j]? = some m) (q : am_call (d + 1) j as h = some (v, h2)) : (m.2.2.2.1 = some .int → ∃ x, v = some (.inl x)) ∧ (m.2.2.2.1 = some .long → ∃ x, v = some (.inr (.inl x))) := by
  unfold am_call at q
  rw [hm] at q
  by_cases g : (am_ent as).length ≤ m.2.2.1
  · have q : (if (am_ent as).length ≤ m.2.2.1 then am_go0 (am_call d) j 0 (am_pad m.2.2.1 (am_ent as)) [] h else none) = some (v, h2) := q
    rw [if_pos g] at q
    obtain ⟨f, w⟩ := am_go0_iff.mp q
    exact am_res_run hm f _ _ _ _ _ w
  · have q : (if (am_ent as).length ≤ m.2.2.1 then am_go0 (am_call d) j 0 (am_pad m.2.2.1 (am_ent as)) [] h else none) = some (v, h2) := q
    rw [if_neg g] at q
    cases q
theorem am_scr {d j N : Nat} {as : List am_V} {I I1 : Nat → Int → Int} {L L1 : Nat → Int → Int64} {v : Option am_V} (q : am_call d j as (am_GS N, am_GR, I, L) = some (v, (am_GS N, am_GR, I1, L1))) : ∀ j : Int, I1 0 j = I 0 j := ((am_le_call d j as _ v _ q).2.2 N rfl).2
theorem am_lz {x : Int64} : (lg_cmp x x).toInt = 0 := am_lc.mpr rfl
theorem law_0 (N : Nat) (i : Int) (I : Nat → Int → Int) (L : Nat → Int → Int64) (i0 : 0 ≤ i) (i5 : i + 5 ≤ (N : Int)) (hN : N ≤ 2560) (hc : (Int32.ofInt (I 0 i) &&& Int32.ofInt 31).toInt < 0 ∨ 18 < (Int32.ofInt (I 0 i) &&& Int32.ofInt 31).toInt) : am_h183 N i I L = am_h183 N (i + 5) I L := by
  unfold am_h183
  rw [s_183_18]
  generalize hx : (Int32.ofInt (I 0 i) &&& Int32.ofInt 31).toInt = x at hc
  simp (disch := omega) only [s_183_19, s_183_20, s_183_21, s_183_22, s_183_23, s_183_26, s_183_27, s_183_28, s_183_29, s_183_31, s_183_32, s_183_762, s_183_765, am_bd_s, Option.toList_some, Option.toList_none, List.cons_append, List.nil_append, am_c1_i, am_c1_n, am_c1_r, if_true, if_false, am_wr_eq, hx, ↓if_pos, ↓if_neg, if_pos, if_neg]
theorem law_constructor (N : Nat) (i : Int) (I : Nat → Int → Int) (L : Nat → Int → Int64) (i0 : 0 ≤ i) (i5 : i + 5 ≤ (N : Int)) (hN : N ≤ 2560) (hR : am_Rel I L) (hc : (Int32.ofInt (I 0 i) &&& Int32.ofInt 31).toInt = 0) : ∃ (I2 : Nat → Int → Int) (L2 : Nat → Int → Int64), am_h183 N i I L = am_h183 N (i + 5) I2 L2 ∧ am_Rel I2 L2 := by
  obtain ⟨r, I1, L1, e1, I2, L2, e2, hR2⟩ := am_sim_constructor (I 0 (i + 1)) N I L hR
  obtain ⟨x, hx⟩ := (am_res_call am_m112 e1).1 rfl
  cases hx
  have s1 := am_scr e1
  refine ⟨I2, L2, ?_, hR2⟩
  unfold am_h183
  rw [s_183_18]
  simp (disch := omega) only [s_183_19, s_183_20, s_183_21, s_183_22, s_183_23, s_183_26, s_183_27, s_183_28, s_183_29, s_183_31, s_183_32, s_183_762, s_183_765, s_183_124, s_183_125, s_183_126, s_183_127, s_183_128, s_183_129, s_183_130, s_183_133, s_183_134, s_183_135, s_183_136, s_183_137, s_183_138, s_183_139, s_183_142, s_183_145, s_183_146, am_bd_s, Option.toList_some, Option.toList_none, List.cons_append, List.nil_append, am_c1_i, am_c1_n, am_c1_r, if_true, if_false, am_wr_eq, hc, s1, e1, e2, ↓if_pos, ↓if_neg, if_pos, if_neg]
theorem law_type (N : Nat) (i : Int) (I : Nat → Int → Int) (L : Nat → Int → Int64) (i0 : 0 ≤ i) (i5 : i + 5 ≤ (N : Int)) (hN : N ≤ 2560) (hR : am_Rel I L) (hc : (Int32.ofInt (I 0 i) &&& Int32.ofInt 31).toInt = 1) : ∃ (I2 : Nat → Int → Int) (L2 : Nat → Int → Int64), am_h183 N i I L = am_h183 N (i + 5) I2 L2 ∧ am_Rel I2 L2 := by
  obtain ⟨r, I1, L1, e1, I2, L2, e2, hR2⟩ := am_sim_type (I 0 (i + 1)) (I 0 (i + 2)) (I 0 (i + 3)) N I L hR
  obtain ⟨x, hx⟩ := (am_res_call am_m113 e1).1 rfl
  cases hx
  have s1 := am_scr e1
  refine ⟨I2, L2, ?_, hR2⟩
  unfold am_h183
  rw [s_183_18]
  simp (disch := omega) only [s_183_19, s_183_20, s_183_21, s_183_22, s_183_23, s_183_26, s_183_27, s_183_28, s_183_29, s_183_31, s_183_32, s_183_762, s_183_765, s_183_147, s_183_148, s_183_149, s_183_150, s_183_151, s_183_152, s_183_153, s_183_154, s_183_155, s_183_156, s_183_157, s_183_158, s_183_159, s_183_160, s_183_161, s_183_162, s_183_163, s_183_166, s_183_167, s_183_168, s_183_169, s_183_170, s_183_171, s_183_172, s_183_173, s_183_174, s_183_175, s_183_176, s_183_177, s_183_178, s_183_179, s_183_180, s_183_181, s_183_182, s_183_185, s_183_188, s_183_189, am_bd_s, Option.toList_some, Option.toList_none, List.cons_append, List.nil_append, am_c1_i, am_c1_n, am_c1_r, if_true, if_false, am_wr_eq, hc, s1, e1, e2, ↓if_pos, ↓if_neg, if_pos, if_neg]
theorem law_cls (N : Nat) (i : Int) (I : Nat → Int → Int) (L : Nat → Int → Int64) (i0 : 0 ≤ i) (i5 : i + 5 ≤ (N : Int)) (hN : N ≤ 2560) (hR : am_Rel I L) (hc : (Int32.ofInt (I 0 i) &&& Int32.ofInt 31).toInt = 2) : ∃ (I2 : Nat → Int → Int) (L2 : Nat → Int → Int64), am_h183 N i I L = am_h183 N (i + 5) I2 L2 ∧ am_Rel I2 L2 := by
  obtain ⟨r, I1, L1, e1, I2, L2, e2, hR2⟩ := am_sim_cls (I 0 (i + 1)) N I L hR
  obtain ⟨x, hx⟩ := (am_res_call am_m114 e1).1 rfl
  cases hx
  have s1 := am_scr e1
  refine ⟨I2, L2, ?_, hR2⟩
  unfold am_h183
  rw [s_183_18]
  simp (disch := omega) only [s_183_19, s_183_20, s_183_21, s_183_22, s_183_23, s_183_26, s_183_27, s_183_28, s_183_29, s_183_31, s_183_32, s_183_762, s_183_765, s_183_190, s_183_191, s_183_192, s_183_193, s_183_194, s_183_195, s_183_196, s_183_199, s_183_200, s_183_201, s_183_202, s_183_203, s_183_204, s_183_205, s_183_208, s_183_211, s_183_212, am_bd_s, Option.toList_some, Option.toList_none, List.cons_append, List.nil_append, am_c1_i, am_c1_n, am_c1_r, if_true, if_false, am_wr_eq, hc, s1, e1, e2, ↓if_pos, ↓if_neg, if_pos, if_neg]
theorem law_superOf (N : Nat) (i : Int) (I : Nat → Int → Int) (L : Nat → Int → Int64) (i0 : 0 ≤ i) (i5 : i + 5 ≤ (N : Int)) (hN : N ≤ 2560) (hR : am_Rel I L) (hc : (Int32.ofInt (I 0 i) &&& Int32.ofInt 31).toInt = 3) : ∃ (I2 : Nat → Int → Int) (L2 : Nat → Int → Int64), am_h183 N i I L = am_h183 N (i + 5) I2 L2 ∧ am_Rel I2 L2 := by
  obtain ⟨r, I1, L1, e1, I2, L2, e2, hR2⟩ := am_sim_superOf (I 0 (i + 1)) (I 0 (i + 2)) N I L hR
  obtain ⟨x, hx⟩ := (am_res_call am_m116 e1).1 rfl
  cases hx
  have s1 := am_scr e1
  refine ⟨I2, L2, ?_, hR2⟩
  unfold am_h183
  rw [s_183_18]
  simp (disch := omega) only [s_183_19, s_183_20, s_183_21, s_183_22, s_183_23, s_183_26, s_183_27, s_183_28, s_183_29, s_183_31, s_183_32, s_183_762, s_183_765, s_183_213, s_183_214, s_183_215, s_183_216, s_183_217, s_183_218, s_183_219, s_183_220, s_183_221, s_183_222, s_183_223, s_183_224, s_183_227, s_183_228, s_183_229, s_183_230, s_183_231, s_183_232, s_183_233, s_183_234, s_183_235, s_183_236, s_183_237, s_183_238, s_183_241, s_183_244, s_183_245, am_bd_s, Option.toList_some, Option.toList_none, List.cons_append, List.nil_append, am_c1_i, am_c1_n, am_c1_r, if_true, if_false, am_wr_eq, hc, s1, e1, e2, ↓if_pos, ↓if_neg, if_pos, if_neg]
theorem law_instance (N : Nat) (i : Int) (I : Nat → Int → Int) (L : Nat → Int → Int64) (i0 : 0 ≤ i) (i5 : i + 5 ≤ (N : Int)) (hN : N ≤ 2560) (hR : am_Rel I L) (hc : (Int32.ofInt (I 0 i) &&& Int32.ofInt 31).toInt = 4) : ∃ (I2 : Nat → Int → Int) (L2 : Nat → Int → Int64), am_h183 N i I L = am_h183 N (i + 5) I2 L2 ∧ am_Rel I2 L2 := by
  obtain ⟨r, I1, L1, e1, I2, L2, e2, hR2⟩ := am_sim_instance (I 0 (i + 1)) (I 0 (i + 2)) N I L hR
  obtain ⟨x, hx⟩ := (am_res_call am_m117 e1).1 rfl
  cases hx
  have s1 := am_scr e1
  refine ⟨I2, L2, ?_, hR2⟩
  unfold am_h183
  rw [s_183_18]
  simp (disch := omega) only [s_183_19, s_183_20, s_183_21, s_183_22, s_183_23, s_183_26, s_183_27, s_183_28, s_183_29, s_183_31, s_183_32, s_183_762, s_183_765, s_183_246, s_183_247, s_183_248, s_183_249, s_183_250, s_183_251, s_183_252, s_183_253, s_183_254, s_183_255, s_183_256, s_183_257, s_183_260, s_183_261, s_183_262, s_183_263, s_183_264, s_183_265, s_183_266, s_183_267, s_183_268, s_183_269, s_183_270, s_183_271, s_183_274, s_183_277, s_183_278, am_bd_s, Option.toList_some, Option.toList_none, List.cons_append, List.nil_append, am_c1_i, am_c1_n, am_c1_r, if_true, if_false, am_wr_eq, hc, s1, e1, e2, ↓if_pos, ↓if_neg, if_pos, if_neg]
theorem law_context (N : Nat) (i : Int) (I : Nat → Int → Int) (L : Nat → Int → Int64) (i0 : 0 ≤ i) (i5 : i + 5 ≤ (N : Int)) (hN : N ≤ 2560) (hR : am_Rel I L) (hc : (Int32.ofInt (I 0 i) &&& Int32.ofInt 31).toInt = 5) : ∃ (I2 : Nat → Int → Int) (L2 : Nat → Int → Int64), am_h183 N i I L = am_h183 N (i + 5) I2 L2 ∧ am_Rel I2 L2 := by
  obtain ⟨r, I1, L1, e1, I2, L2, e2, hR2⟩ := am_sim_context (I 0 (i + 1)) (I 0 (i + 2)) (I 0 (i + 3)) N I L hR
  obtain ⟨x, hx⟩ := (am_res_call am_m118 e1).1 rfl
  cases hx
  have s1 := am_scr e1
  refine ⟨I2, L2, ?_, hR2⟩
  unfold am_h183
  rw [s_183_18]
  simp (disch := omega) only [s_183_19, s_183_20, s_183_21, s_183_22, s_183_23, s_183_26, s_183_27, s_183_28, s_183_29, s_183_31, s_183_32, s_183_762, s_183_765, s_183_279, s_183_280, s_183_281, s_183_282, s_183_283, s_183_284, s_183_285, s_183_286, s_183_287, s_183_288, s_183_289, s_183_290, s_183_291, s_183_292, s_183_293, s_183_294, s_183_295, s_183_298, s_183_299, s_183_300, s_183_301, s_183_302, s_183_303, s_183_304, s_183_305, s_183_306, s_183_307, s_183_308, s_183_309, s_183_310, s_183_311, s_183_312, s_183_313, s_183_314, s_183_317, s_183_320, s_183_321, am_bd_s, Option.toList_some, Option.toList_none, List.cons_append, List.nil_append, am_c1_i, am_c1_n, am_c1_r, if_true, if_false, am_wr_eq, hc, s1, e1, e2, ↓if_pos, ↓if_neg, if_pos, if_neg]
theorem law_node (N : Nat) (i : Int) (I : Nat → Int → Int) (L : Nat → Int → Int64) (i0 : 0 ≤ i) (i5 : i + 5 ≤ (N : Int)) (hN : N ≤ 2560) (hR : am_Rel I L) (hc : (Int32.ofInt (I 0 i) &&& Int32.ofInt 31).toInt = 6) : ∃ (I2 : Nat → Int → Int) (L2 : Nat → Int → Int64), am_h183 N i I L = am_h183 N (i + 5) I2 L2 ∧ am_Rel I2 L2 := by
  obtain ⟨r, I1, L1, e1, I2, L2, e2, hR2⟩ := am_sim_node (I 0 (i + 1)) (I 0 (i + 2)) (I 0 (i + 3)) (I 0 (i + 4)) N I L hR
  obtain ⟨x, hx⟩ := (am_res_call am_m119 e1).1 rfl
  cases hx
  have s1 := am_scr e1
  refine ⟨I2, L2, ?_, hR2⟩
  unfold am_h183
  rw [s_183_18]
  simp (disch := omega) only [s_183_19, s_183_20, s_183_21, s_183_22, s_183_23, s_183_26, s_183_27, s_183_28, s_183_29, s_183_31, s_183_32, s_183_762, s_183_765, s_183_322, s_183_323, s_183_324, s_183_325, s_183_326, s_183_327, s_183_328, s_183_329, s_183_330, s_183_331, s_183_332, s_183_333, s_183_334, s_183_335, s_183_336, s_183_337, s_183_338, s_183_339, s_183_340, s_183_341, s_183_342, s_183_343, s_183_346, s_183_347, s_183_348, s_183_349, s_183_350, s_183_351, s_183_352, s_183_353, s_183_354, s_183_355, s_183_356, s_183_357, s_183_358, s_183_359, s_183_360, s_183_361, s_183_362, s_183_363, s_183_364, s_183_365, s_183_366, s_183_367, s_183_370, s_183_373, s_183_374, am_bd_s, Option.toList_some, Option.toList_none, List.cons_append, List.nil_append, am_c1_i, am_c1_n, am_c1_r, if_true, if_false, am_wr_eq, hc, s1, e1, e2, ↓if_pos, ↓if_neg, if_pos, if_neg]
theorem law_body (N : Nat) (i : Int) (I : Nat → Int → Int) (L : Nat → Int → Int64) (i0 : 0 ≤ i) (i5 : i + 5 ≤ (N : Int)) (hN : N ≤ 2560) (hR : am_Rel I L) (hc : (Int32.ofInt (I 0 i) &&& Int32.ofInt 31).toInt = 7) : ∃ (I2 : Nat → Int → Int) (L2 : Nat → Int → Int64), am_h183 N i I L = am_h183 N (i + 5) I2 L2 ∧ am_Rel I2 L2 := by
  obtain ⟨r, I1, L1, e1, I2, L2, e2, hR2⟩ := am_sim_body (I 0 (i + 1)) (I 0 (i + 2)) (I 0 (i + 3)) N I L hR
  obtain ⟨x, hx⟩ := (am_res_call am_m120 e1).1 rfl
  cases hx
  have s1 := am_scr e1
  refine ⟨I2, L2, ?_, hR2⟩
  unfold am_h183
  rw [s_183_18]
  simp (disch := omega) only [s_183_19, s_183_20, s_183_21, s_183_22, s_183_23, s_183_26, s_183_27, s_183_28, s_183_29, s_183_31, s_183_32, s_183_762, s_183_765, s_183_375, s_183_376, s_183_377, s_183_378, s_183_379, s_183_380, s_183_381, s_183_382, s_183_383, s_183_384, s_183_385, s_183_386, s_183_387, s_183_388, s_183_389, s_183_390, s_183_391, s_183_394, s_183_395, s_183_396, s_183_397, s_183_398, s_183_399, s_183_400, s_183_401, s_183_402, s_183_403, s_183_404, s_183_405, s_183_406, s_183_407, s_183_408, s_183_409, s_183_410, s_183_413, s_183_416, s_183_417, am_bd_s, Option.toList_some, Option.toList_none, List.cons_append, List.nil_append, am_c1_i, am_c1_n, am_c1_r, if_true, if_false, am_wr_eq, hc, s1, e1, e2, ↓if_pos, ↓if_neg, if_pos, if_neg]
theorem law_standard (N : Nat) (i : Int) (I : Nat → Int → Int) (L : Nat → Int → Int64) (i0 : 0 ≤ i) (i5 : i + 5 ≤ (N : Int)) (hN : N ≤ 2560) (hR : am_Rel I L) (hc : (Int32.ofInt (I 0 i) &&& Int32.ofInt 31).toInt = 8) : ∃ (I2 : Nat → Int → Int) (L2 : Nat → Int → Int64), am_h183 N i I L = am_h183 N (i + 5) I2 L2 ∧ am_Rel I2 L2 := by
  obtain ⟨r, I1, L1, e1, I2, L2, e2, hR2⟩ := am_sim_standard (I 0 (i + 1)) (I 0 (i + 2)) (I 0 (i + 3)) N I L hR
  obtain ⟨x, hx⟩ := (am_res_call am_m121 e1).1 rfl
  cases hx
  have s1 := am_scr e1
  refine ⟨I2, L2, ?_, hR2⟩
  unfold am_h183
  rw [s_183_18]
  simp (disch := omega) only [s_183_19, s_183_20, s_183_21, s_183_22, s_183_23, s_183_26, s_183_27, s_183_28, s_183_29, s_183_31, s_183_32, s_183_762, s_183_765, s_183_418, s_183_419, s_183_420, s_183_421, s_183_422, s_183_423, s_183_424, s_183_425, s_183_426, s_183_427, s_183_428, s_183_429, s_183_430, s_183_431, s_183_432, s_183_433, s_183_434, s_183_437, s_183_438, s_183_439, s_183_440, s_183_441, s_183_442, s_183_443, s_183_444, s_183_445, s_183_446, s_183_447, s_183_448, s_183_449, s_183_450, s_183_451, s_183_452, s_183_453, s_183_456, s_183_459, s_183_460, am_bd_s, Option.toList_some, Option.toList_none, List.cons_append, List.nil_append, am_c1_i, am_c1_n, am_c1_r, if_true, if_false, am_wr_eq, hc, s1, e1, e2, ↓if_pos, ↓if_neg, if_pos, if_neg]
theorem law_dictionary (N : Nat) (i : Int) (I : Nat → Int → Int) (L : Nat → Int → Int64) (i0 : 0 ≤ i) (i5 : i + 5 ≤ (N : Int)) (hN : N ≤ 2560) (hR : am_Rel I L) (hc : (Int32.ofInt (I 0 i) &&& Int32.ofInt 31).toInt = 9) : ∃ (I2 : Nat → Int → Int) (L2 : Nat → Int → Int64), am_h183 N i I L = am_h183 N (i + 5) I2 L2 ∧ am_Rel I2 L2 := by
  obtain ⟨r, I1, L1, e1, I2, L2, e2, hR2⟩ := am_sim_dictionary (I 0 (i + 1)) (I 0 (i + 2)) N I L hR
  obtain ⟨x, hx⟩ := (am_res_call am_m122 e1).1 rfl
  cases hx
  have s1 := am_scr e1
  refine ⟨I2, L2, ?_, hR2⟩
  unfold am_h183
  rw [s_183_18]
  simp (disch := omega) only [s_183_19, s_183_20, s_183_21, s_183_22, s_183_23, s_183_26, s_183_27, s_183_28, s_183_29, s_183_31, s_183_32, s_183_762, s_183_765, s_183_461, s_183_462, s_183_463, s_183_464, s_183_465, s_183_466, s_183_467, s_183_468, s_183_469, s_183_470, s_183_471, s_183_472, s_183_475, s_183_476, s_183_477, s_183_478, s_183_479, s_183_480, s_183_481, s_183_482, s_183_483, s_183_484, s_183_485, s_183_486, s_183_489, s_183_492, s_183_493, am_bd_s, Option.toList_some, Option.toList_none, List.cons_append, List.nil_append, am_c1_i, am_c1_n, am_c1_r, if_true, if_false, am_wr_eq, hc, s1, e1, e2, ↓if_pos, ↓if_neg, if_pos, if_neg]
theorem law_lack (N : Nat) (i : Int) (I : Nat → Int → Int) (L : Nat → Int → Int64) (i0 : 0 ≤ i) (i5 : i + 5 ≤ (N : Int)) (hN : N ≤ 2560) (hR : am_Rel I L) (hc : (Int32.ofInt (I 0 i) &&& Int32.ofInt 31).toInt = 10) : ∃ (I2 : Nat → Int → Int) (L2 : Nat → Int → Int64), am_h183 N i I L = am_h183 N (i + 5) I2 L2 ∧ am_Rel I2 L2 := by
  obtain ⟨r, I1, L1, e1, I2, L2, e2, hR2⟩ := am_sim_lack (I 0 (i + 1)) N I L hR
  obtain ⟨x, hx⟩ := (am_res_call am_m123 e1).1 rfl
  cases hx
  have s1 := am_scr e1
  refine ⟨I2, L2, ?_, hR2⟩
  unfold am_h183
  rw [s_183_18]
  simp (disch := omega) only [s_183_19, s_183_20, s_183_21, s_183_22, s_183_23, s_183_26, s_183_27, s_183_28, s_183_29, s_183_31, s_183_32, s_183_762, s_183_765, s_183_494, s_183_495, s_183_496, s_183_497, s_183_498, s_183_499, s_183_500, s_183_503, s_183_504, s_183_505, s_183_506, s_183_507, s_183_508, s_183_509, s_183_512, s_183_515, s_183_516, am_bd_s, Option.toList_some, Option.toList_none, List.cons_append, List.nil_append, am_c1_i, am_c1_n, am_c1_r, if_true, if_false, am_wr_eq, hc, s1, e1, e2, ↓if_pos, ↓if_neg, if_pos, if_neg]
theorem law_part (N : Nat) (i : Int) (I : Nat → Int → Int) (L : Nat → Int → Int64) (i0 : 0 ≤ i) (i5 : i + 5 ≤ (N : Int)) (hN : N ≤ 2560) (hR : am_Rel I L) (hc : (Int32.ofInt (I 0 i) &&& Int32.ofInt 31).toInt = 11) : ∃ (I2 : Nat → Int → Int) (L2 : Nat → Int → Int64), am_h183 N i I L = am_h183 N (i + 5) I2 L2 ∧ am_Rel I2 L2 := by
  obtain ⟨r, I1, L1, e1, I2, L2, e2, hR2⟩ := am_sim_part (I 0 (i + 1)) (I 0 (i + 2)) N I L hR
  obtain ⟨x, hx⟩ := (am_res_call am_m124 e1).1 rfl
  cases hx
  have s1 := am_scr e1
  refine ⟨I2, L2, ?_, hR2⟩
  unfold am_h183
  rw [s_183_18]
  simp (disch := omega) only [s_183_19, s_183_20, s_183_21, s_183_22, s_183_23, s_183_26, s_183_27, s_183_28, s_183_29, s_183_31, s_183_32, s_183_762, s_183_765, s_183_517, s_183_518, s_183_519, s_183_520, s_183_521, s_183_522, s_183_523, s_183_524, s_183_525, s_183_526, s_183_527, s_183_528, s_183_531, s_183_532, s_183_533, s_183_534, s_183_535, s_183_536, s_183_537, s_183_538, s_183_539, s_183_540, s_183_541, s_183_542, s_183_545, s_183_548, s_183_549, am_bd_s, Option.toList_some, Option.toList_none, List.cons_append, List.nil_append, am_c1_i, am_c1_n, am_c1_r, if_true, if_false, am_wr_eq, hc, s1, e1, e2, ↓if_pos, ↓if_neg, if_pos, if_neg]
theorem law_about (N : Nat) (i : Int) (I : Nat → Int → Int) (L : Nat → Int → Int64) (i0 : 0 ≤ i) (i5 : i + 5 ≤ (N : Int)) (hN : N ≤ 2560) (hR : am_Rel I L) (hc : (Int32.ofInt (I 0 i) &&& Int32.ofInt 31).toInt = 12) : ∃ (I2 : Nat → Int → Int) (L2 : Nat → Int → Int64), am_h183 N i I L = am_h183 N (i + 5) I2 L2 ∧ am_Rel I2 L2 := by
  obtain ⟨r, I1, L1, e1, I2, L2, e2, hR2⟩ := am_sim_about (I 0 (i + 1)) (I 0 (i + 2)) N I L hR
  obtain ⟨x, hx⟩ := (am_res_call am_m125 e1).1 rfl
  cases hx
  have s1 := am_scr e1
  refine ⟨I2, L2, ?_, hR2⟩
  unfold am_h183
  rw [s_183_18]
  simp (disch := omega) only [s_183_19, s_183_20, s_183_21, s_183_22, s_183_23, s_183_26, s_183_27, s_183_28, s_183_29, s_183_31, s_183_32, s_183_762, s_183_765, s_183_550, s_183_551, s_183_552, s_183_553, s_183_554, s_183_555, s_183_556, s_183_557, s_183_558, s_183_559, s_183_560, s_183_561, s_183_564, s_183_565, s_183_566, s_183_567, s_183_568, s_183_569, s_183_570, s_183_571, s_183_572, s_183_573, s_183_574, s_183_575, s_183_578, s_183_581, s_183_582, am_bd_s, Option.toList_some, Option.toList_none, List.cons_append, List.nil_append, am_c1_i, am_c1_n, am_c1_r, if_true, if_false, am_wr_eq, hc, s1, e1, e2, ↓if_pos, ↓if_neg, if_pos, if_neg]
theorem law_value (N : Nat) (i : Int) (I : Nat → Int → Int) (L : Nat → Int → Int64) (i0 : 0 ≤ i) (i5 : i + 5 ≤ (N : Int)) (hN : N ≤ 2560) (hR : am_Rel I L) (hc : (Int32.ofInt (I 0 i) &&& Int32.ofInt 31).toInt = 13) : ∃ (I2 : Nat → Int → Int) (L2 : Nat → Int → Int64), am_h183 N i I L = am_h183 N (i + 5) I2 L2 ∧ am_Rel I2 L2 := by
  obtain ⟨r, I1, L1, e1, I2, L2, e2, hR2⟩ := am_sim_value (I 0 (i + 1)) (I 0 (i + 2)) N I L hR
  obtain ⟨x, hx⟩ := (am_res_call am_m126 e1).2 rfl
  cases hx
  have s1 := am_scr e1
  refine ⟨I2, L2, ?_, hR2⟩
  unfold am_h183
  rw [s_183_18]
  simp (disch := omega) only [s_183_19, s_183_20, s_183_21, s_183_22, s_183_23, s_183_26, s_183_27, s_183_28, s_183_29, s_183_31, s_183_32, s_183_762, s_183_765, s_183_583, s_183_584, s_183_585, s_183_586, s_183_587, s_183_588, s_183_589, s_183_590, s_183_591, s_183_592, s_183_593, s_183_594, s_183_597, s_183_598, s_183_599, s_183_600, s_183_601, s_183_602, s_183_603, s_183_604, s_183_605, s_183_606, s_183_607, s_183_608, s_183_611, s_183_612, s_183_615, s_183_616, am_bd_s, Option.toList_some, Option.toList_none, List.cons_append, List.nil_append, am_c1_i, am_c1_n, am_c1_r, if_true, if_false, am_wr_eq, hc, s1, e1, e2, am_lz, ↓if_pos, ↓if_neg, if_pos, if_neg]
theorem law_failed (N : Nat) (i : Int) (I : Nat → Int → Int) (L : Nat → Int → Int64) (i0 : 0 ≤ i) (i5 : i + 5 ≤ (N : Int)) (hN : N ≤ 2560) (hR : am_Rel I L) (hc : (Int32.ofInt (I 0 i) &&& Int32.ofInt 31).toInt = 14) : ∃ (I2 : Nat → Int → Int) (L2 : Nat → Int → Int64), am_h183 N i I L = am_h183 N (i + 5) I2 L2 ∧ am_Rel I2 L2 := by
  obtain ⟨r, I1, L1, e1, I2, L2, e2, hR2⟩ := am_sim_failed (I 0 (i + 1)) N I L hR
  obtain ⟨x, hx⟩ := (am_res_call am_m128 e1).1 rfl
  cases hx
  have s1 := am_scr e1
  refine ⟨I2, L2, ?_, hR2⟩
  unfold am_h183
  rw [s_183_18]
  simp (disch := omega) only [s_183_19, s_183_20, s_183_21, s_183_22, s_183_23, s_183_26, s_183_27, s_183_28, s_183_29, s_183_31, s_183_32, s_183_762, s_183_765, s_183_617, s_183_618, s_183_619, s_183_620, s_183_621, s_183_622, s_183_623, s_183_626, s_183_627, s_183_628, s_183_629, s_183_630, s_183_631, s_183_632, s_183_635, s_183_638, s_183_639, am_bd_s, Option.toList_some, Option.toList_none, List.cons_append, List.nil_append, am_c1_i, am_c1_n, am_c1_r, if_true, if_false, am_wr_eq, hc, s1, e1, e2, ↓if_pos, ↓if_neg, if_pos, if_neg]
theorem law_step (N : Nat) (i : Int) (I : Nat → Int → Int) (L : Nat → Int → Int64) (i0 : 0 ≤ i) (i5 : i + 5 ≤ (N : Int)) (hN : N ≤ 2560) (hR : am_Rel I L) (hc : (Int32.ofInt (I 0 i) &&& Int32.ofInt 31).toInt = 15) : ∃ (I2 : Nat → Int → Int) (L2 : Nat → Int → Int64), am_h183 N i I L = am_h183 N (i + 5) I2 L2 ∧ am_Rel I2 L2 := by
  obtain ⟨r, I1, L1, e1, I2, L2, e2, hR2⟩ := am_sim_step (I 0 (i + 1)) (I 0 (i + 2)) N I L hR
  obtain ⟨x, hx⟩ := (am_res_call am_m129 e1).1 rfl
  cases hx
  have s1 := am_scr e1
  refine ⟨I2, L2, ?_, hR2⟩
  unfold am_h183
  rw [s_183_18]
  simp (disch := omega) only [s_183_19, s_183_20, s_183_21, s_183_22, s_183_23, s_183_26, s_183_27, s_183_28, s_183_29, s_183_31, s_183_32, s_183_762, s_183_765, s_183_640, s_183_641, s_183_642, s_183_643, s_183_644, s_183_645, s_183_646, s_183_647, s_183_648, s_183_649, s_183_650, s_183_651, s_183_654, s_183_655, s_183_656, s_183_657, s_183_658, s_183_659, s_183_660, s_183_661, s_183_662, s_183_663, s_183_664, s_183_665, s_183_668, s_183_671, s_183_672, am_bd_s, Option.toList_some, Option.toList_none, List.cons_append, List.nil_append, am_c1_i, am_c1_n, am_c1_r, if_true, if_false, am_wr_eq, hc, s1, e1, e2, ↓if_pos, ↓if_neg, if_pos, if_neg]
theorem law_begun (N : Nat) (i : Int) (I : Nat → Int → Int) (L : Nat → Int → Int64) (i0 : 0 ≤ i) (i5 : i + 5 ≤ (N : Int)) (hN : N ≤ 2560) (hR : am_Rel I L) (hc : (Int32.ofInt (I 0 i) &&& Int32.ofInt 31).toInt = 16) : ∃ (I2 : Nat → Int → Int) (L2 : Nat → Int → Int64), am_h183 N i I L = am_h183 N (i + 5) I2 L2 ∧ am_Rel I2 L2 := by
  obtain ⟨r, I1, L1, e1, I2, L2, e2, hR2⟩ := am_sim_begun (I 0 (i + 1)) (I 0 (i + 2)) N I L hR
  obtain ⟨x, hx⟩ := (am_res_call am_m130 e1).1 rfl
  cases hx
  have s1 := am_scr e1
  refine ⟨I2, L2, ?_, hR2⟩
  unfold am_h183
  rw [s_183_18]
  simp (disch := omega) only [s_183_19, s_183_20, s_183_21, s_183_22, s_183_23, s_183_26, s_183_27, s_183_28, s_183_29, s_183_31, s_183_32, s_183_762, s_183_765, s_183_673, s_183_674, s_183_675, s_183_676, s_183_677, s_183_678, s_183_679, s_183_680, s_183_681, s_183_682, s_183_683, s_183_684, s_183_687, s_183_688, s_183_689, s_183_690, s_183_691, s_183_692, s_183_693, s_183_694, s_183_695, s_183_696, s_183_697, s_183_698, s_183_701, s_183_704, s_183_705, am_bd_s, Option.toList_some, Option.toList_none, List.cons_append, List.nil_append, am_c1_i, am_c1_n, am_c1_r, if_true, if_false, am_wr_eq, hc, s1, e1, e2, ↓if_pos, ↓if_neg, if_pos, if_neg]
theorem law_typeOf (N : Nat) (i : Int) (I : Nat → Int → Int) (L : Nat → Int → Int64) (i0 : 0 ≤ i) (i5 : i + 5 ≤ (N : Int)) (hN : N ≤ 2560) (hR : am_Rel I L) (hc : (Int32.ofInt (I 0 i) &&& Int32.ofInt 31).toInt = 17) : ∃ (I2 : Nat → Int → Int) (L2 : Nat → Int → Int64), am_h183 N i I L = am_h183 N (i + 5) I2 L2 ∧ am_Rel I2 L2 := by
  obtain ⟨r, I1, L1, e1, I2, L2, e2, hR2⟩ := am_sim_typeOf (I 0 (i + 1)) (I 0 (i + 2)) N I L hR
  obtain ⟨x, hx⟩ := (am_res_call am_m131 e1).1 rfl
  cases hx
  have s1 := am_scr e1
  refine ⟨I2, L2, ?_, hR2⟩
  unfold am_h183
  rw [s_183_18]
  simp (disch := omega) only [s_183_19, s_183_20, s_183_21, s_183_22, s_183_23, s_183_26, s_183_27, s_183_28, s_183_29, s_183_31, s_183_32, s_183_762, s_183_765, s_183_706, s_183_707, s_183_708, s_183_709, s_183_710, s_183_711, s_183_712, s_183_713, s_183_714, s_183_715, s_183_716, s_183_717, s_183_720, s_183_721, s_183_722, s_183_723, s_183_724, s_183_725, s_183_726, s_183_727, s_183_728, s_183_729, s_183_730, s_183_731, s_183_734, s_183_737, s_183_738, am_bd_s, Option.toList_some, Option.toList_none, List.cons_append, List.nil_append, am_c1_i, am_c1_n, am_c1_r, if_true, if_false, am_wr_eq, hc, s1, e1, e2, ↓if_pos, ↓if_neg, if_pos, if_neg]
theorem law_count (N : Nat) (i : Int) (I : Nat → Int → Int) (L : Nat → Int → Int64) (i0 : 0 ≤ i) (i5 : i + 5 ≤ (N : Int)) (hN : N ≤ 2560) (hR : am_Rel I L) (hc : (Int32.ofInt (I 0 i) &&& Int32.ofInt 31).toInt = 18) : ∃ (I2 : Nat → Int → Int) (L2 : Nat → Int → Int64), am_h183 N i I L = am_h183 N (i + 5) I2 L2 ∧ am_Rel I2 L2 := by
  obtain ⟨r, I1, L1, e1, I2, L2, e2, hR2⟩ := am_sim_count (I 0 (i + 1)) N I L hR
  obtain ⟨x, hx⟩ := (am_res_call am_m132 e1).1 rfl
  cases hx
  have s1 := am_scr e1
  refine ⟨I2, L2, ?_, hR2⟩
  unfold am_h183
  rw [s_183_18]
  simp (disch := omega) only [s_183_19, s_183_20, s_183_21, s_183_22, s_183_23, s_183_26, s_183_27, s_183_28, s_183_29, s_183_31, s_183_32, s_183_762, s_183_765, s_183_739, s_183_740, s_183_741, s_183_742, s_183_743, s_183_744, s_183_745, s_183_748, s_183_749, s_183_750, s_183_751, s_183_752, s_183_753, s_183_754, s_183_757, s_183_760, s_183_761, am_bd_s, Option.toList_some, Option.toList_none, List.cons_append, List.nil_append, am_c1_i, am_c1_n, am_c1_r, if_true, if_false, am_wr_eq, hc, s1, e1, e2, ↓if_pos, ↓if_neg, if_pos, if_neg]
theorem law_turn (N : Nat) (i : Int) (I : Nat → Int → Int) (L : Nat → Int → Int64) (i0 : 0 ≤ i) (i5 : i + 5 ≤ (N : Int)) (hN : N ≤ 2560) (hR : am_Rel I L) : ∃ (I2 : Nat → Int → Int) (L2 : Nat → Int → Int64), am_h183 N i I L = am_h183 N (i + 5) I2 L2 ∧ am_Rel I2 L2 := by
  by_cases q0 : (Int32.ofInt (I 0 i) &&& Int32.ofInt 31).toInt = 0
  · exact law_constructor N i I L i0 i5 hN hR q0
  by_cases q1 : (Int32.ofInt (I 0 i) &&& Int32.ofInt 31).toInt = 1
  · exact law_type N i I L i0 i5 hN hR q1
  by_cases q2 : (Int32.ofInt (I 0 i) &&& Int32.ofInt 31).toInt = 2
  · exact law_cls N i I L i0 i5 hN hR q2
  by_cases q3 : (Int32.ofInt (I 0 i) &&& Int32.ofInt 31).toInt = 3
  · exact law_superOf N i I L i0 i5 hN hR q3
  by_cases q4 : (Int32.ofInt (I 0 i) &&& Int32.ofInt 31).toInt = 4
  · exact law_instance N i I L i0 i5 hN hR q4
  by_cases q5 : (Int32.ofInt (I 0 i) &&& Int32.ofInt 31).toInt = 5
  · exact law_context N i I L i0 i5 hN hR q5
  by_cases q6 : (Int32.ofInt (I 0 i) &&& Int32.ofInt 31).toInt = 6
  · exact law_node N i I L i0 i5 hN hR q6
  by_cases q7 : (Int32.ofInt (I 0 i) &&& Int32.ofInt 31).toInt = 7
  · exact law_body N i I L i0 i5 hN hR q7
  by_cases q8 : (Int32.ofInt (I 0 i) &&& Int32.ofInt 31).toInt = 8
  · exact law_standard N i I L i0 i5 hN hR q8
  by_cases q9 : (Int32.ofInt (I 0 i) &&& Int32.ofInt 31).toInt = 9
  · exact law_dictionary N i I L i0 i5 hN hR q9
  by_cases q10 : (Int32.ofInt (I 0 i) &&& Int32.ofInt 31).toInt = 10
  · exact law_lack N i I L i0 i5 hN hR q10
  by_cases q11 : (Int32.ofInt (I 0 i) &&& Int32.ofInt 31).toInt = 11
  · exact law_part N i I L i0 i5 hN hR q11
  by_cases q12 : (Int32.ofInt (I 0 i) &&& Int32.ofInt 31).toInt = 12
  · exact law_about N i I L i0 i5 hN hR q12
  by_cases q13 : (Int32.ofInt (I 0 i) &&& Int32.ofInt 31).toInt = 13
  · exact law_value N i I L i0 i5 hN hR q13
  by_cases q14 : (Int32.ofInt (I 0 i) &&& Int32.ofInt 31).toInt = 14
  · exact law_failed N i I L i0 i5 hN hR q14
  by_cases q15 : (Int32.ofInt (I 0 i) &&& Int32.ofInt 31).toInt = 15
  · exact law_step N i I L i0 i5 hN hR q15
  by_cases q16 : (Int32.ofInt (I 0 i) &&& Int32.ofInt 31).toInt = 16
  · exact law_begun N i I L i0 i5 hN hR q16
  by_cases q17 : (Int32.ofInt (I 0 i) &&& Int32.ofInt 31).toInt = 17
  · exact law_typeOf N i I L i0 i5 hN hR q17
  by_cases q18 : (Int32.ofInt (I 0 i) &&& Int32.ofInt 31).toInt = 18
  · exact law_count N i I L i0 i5 hN hR q18
  exact ⟨I, L, law_0 N i I L i0 i5 hN (by omega), hR⟩
theorem law_end (N : Nat) (i : Int) (I : Nat → Int → Int) (L : Nat → Int → Int64) (i0 : 0 ≤ i) (i5 : ¬ i + 5 ≤ (N : Int)) (i9 : i ≤ 5000) (hN : N ≤ 2560) : am_h183 N i I L = some (some (.inl 1), (am_GS N, am_GR, I, L)) := by
  unfold am_h183
  rw [s_183_18]
  simp (disch := omega) only [s_183_19, s_183_20, s_183_21, s_183_22, s_183_23, s_183_768, s_183_769, am_bd_s, Option.toList_some, Option.toList_none, List.cons_append, List.nil_append, am_c1_i, am_c1_n, am_c1_r, if_true, if_false, am_wr_eq, ↓if_pos, ↓if_neg, if_pos, if_neg]
theorem law_all (N : Nat) (hN : N ≤ 2560) : ∀ (k : Nat) (i : Int) (I : Nat → Int → Int) (L : Nat → Int → Int64), 0 ≤ i → i ≤ 5000 → (N : Int) - i < k → am_Rel I L → ∃ (I2 : Nat → Int → Int) (L2 : Nat → Int → Int64), am_h183 N i I L = some (some (.inl 1), (am_GS N, am_GR, I2, L2)) := by
  intro k
  induction k with
  | zero =>
    intro i I L i0 i9 hk _
    exact ⟨I, L, law_end N i I L i0 (by omega) i9 hN⟩
  | succ k ih =>
    intro i I L i0 i9 hk hR
    by_cases q : i + 5 ≤ (N : Int)
    · obtain ⟨I2, L2, e1, hR2⟩ := law_turn N i I L i0 q hN hR
      obtain ⟨I3, L3, e2⟩ := ih (i + 5) I2 L2 (by omega) (by omega) (by omega) hR2
      exact ⟨I3, L3, e1.trans e2⟩
    · exact ⟨I, L, law_end N i I L i0 q i9 hN⟩
