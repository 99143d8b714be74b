/-! The abstract machine is sound. -/
theorem am_Xs.keep {mt : am_M} {b base : Nat} {s : State} {h h2 : am_H} (X : am_Xs mt b base s h) (h6 : ∃ n, h.1[0]? = some (9, n)) (hle : am_le h h2) : am_Xs mt b base s h2 := by
  intro ho n hn
  obtain ⟨n1, h1⟩ := h6
  obtain ⟨g1, g2⟩ := hle.2.2 n1 h1
  have en : n1 = n := by rw [g1] at hn; cases hn; rfl
  subst en
  have w := X ho n1 h1
  refine ⟨?_, w.2⟩
  have e : (fun j : Nat => Int32.ofInt (h2.2.2.1 0 j)) = (fun j : Nat => Int32.ofInt (h.2.2.1 0 j)) := by funext j; rw [g2]
  rw [e]
  exact w.1
theorem am_code_ok {j pc : Nat} {mt : am_M} {i : Instr} {n : Nat} (hm : am_ml[j]? = some mt) (h : am_code j pc = some (i, n)) : decode mt.2.1 pc = .ok (i, n) ∧ am_lok i n = true := by
  unfold am_code at h
  rw [hm] at h
  simp only at h
  split at h
  · next i1 n1 e =>
    split at h
    · next g => cases h; exact ⟨e, g⟩
    · cases h
  · cases h
theorem am_inv_of_call {mt : am_M} {i : Instr} {n pc : Nat} {ls : am_Ls} {st : List am_V} {h : am_H} {y : Nat × List am_V × Nat × am_Ls × List am_V × am_H} (q : am_next mt i n pc ls st h = some (.inr (.inr y))) : ∃ a kd, (i = .invokevirtual a ∧ kd = 0 ∨ i = .invokestatic a ∧ kd = 1 ∨ i = .invokespecial a ∧ kd = 2) ∧ am_inv kd mt.2.2.2.2 a (pc + n) ls st h = some (.inr (.inr y)) := by
  have hgo : ∀ {pc : Nat} {ls : am_Ls} {st : List am_V} {h : am_H}, am_go pc ls st h = some (.inr (.inr y)) → False := fun w => by cases w
  have hj : ∀ {pc nx : Nat} {off : Int} {cc : Bool} {ls : am_Ls} {st : List am_V} {h : am_H}, am_jmp pc off cc nx ls st h = some (.inr (.inr y)) → False := fun w => by
    obtain ⟨-, w⟩ := am_jmp_inv w; cases w
  cases i
  case invokevirtual a => exact ⟨a, 0, Or.inl ⟨rfl, rfl⟩, q⟩
  case invokestatic a => exact ⟨a, 1, Or.inr (Or.inl ⟨rfl, rfl⟩), q⟩
  case invokespecial a => exact ⟨a, 2, Or.inr (Or.inr ⟨rfl, rfl⟩), q⟩
  all_goals exfalso
  all_goals simp only [am_next] at q
  all_goals first
    | (cases q; done)
    | exact hgo q
    | exact hj q
    | (unfold am_load am_go at q; split at q <;> cases q; done)
    | (unfold am_store am_go at q; split at q <;> first | (cases q; done) | (split at q <;> cases q; done))
    | (unfold am_bin am_go at q; split at q <;> cases q; done)
    | (unfold am_binL am_go at q; split at q <;> cases q; done)
    | (unfold am_ial am_go at q; split at q <;> first | (cases q; done) | (split at q <;> cases q; done))
    | (unfold am_bal am_go at q; split at q <;> first | (cases q; done) | (split at q <;> cases q; done))
    | (unfold am_lal am_go at q; split at q <;> first | (cases q; done) | (split at q <;> cases q; done))
    | (unfold am_ias am_go at q; split at q <;> first | (cases q; done) | (split at q <;> cases q; done))
    | (unfold am_bas am_go at q; split at q <;> first | (cases q; done) | (split at q <;> cases q; done))
    | (unfold am_las am_go at q; split at q <;> first | (cases q; done) | (split at q <;> cases q; done))
    | (unfold am_len am_go at q; split at q <;> first | (cases q; done) | (split at q <;> first | (cases q; done) | (split at q <;> cases q; done)))
    | (unfold am_gf am_go at q; split at q <;> first | (cases q; done) | (split at q <;> first | (cases q; done) | (split at q <;> cases q; done)))
    | (unfold am_pf am_go at q; split at q <;> first | (cases q; done) | (split at q <;> first | (cases q; done) | (split at q <;> first | (cases q; done) | (split at q <;> cases q; done))))
    | (unfold am_new am_go at q; split at q <;> cases q; done)
    | (unfold am_newa am_go at q; split at q <;> first | (cases q; done) | (split at q <;> cases q; done))
    | (unfold am_ret at q; split at q <;> first | (cases q; done) | (split at q <;> cases q; done))
    | (split at q <;> first | (cases q; done) | exact hgo q | exact hj q | (split at q <;> first | (cases q; done) | exact hgo q | exact hj q))
section AMR
variable {p : Program} {l : Launch} {e : Env} {R : Room} {s : State} {m : MethodId} {args : Array Value} {below : List Frame} {meth : Method} {c : Code} {Q : State → Prop} {mt : am_M} {base b n0 z0 : Nat} {D : va_G} {dA : Nat → ClassId}
theorem am_runW {d j : Nat} (IH : am_Sd d) (hmt : am_ml[j]? = some mt) (C : am_Cx p s m args meth c mt) (K : am_K D dA s) (hR : d + 1 ≤ R.frames ∧ 37 * d + 22 ≤ R.locals) (res : am_Re) (hfit : res.2.1.length ≤ n0 + R.cells ∧ am_sz res.2.1 ≤ z0 + R.slots)
    (hend : ∀ (pc : Nat) (i : Instr) (n : Nat) (ls : am_Ls) (st : List am_V) (h : am_H) (sl : Array Slot) (H : Heap) (locs : List Loc) (cells slots : Nat), decode mt.2.1 pc = .ok (i, n) → am_lok i n = true → am_next mt i n pc ls st h = some (.inr (.inl res)) → am_Rp base b D dA s n0 z0 h H locs cells slots → am_rgS st → W p l e R s m args below meth c H locs cells slots Q (F0 m pc sl (st.map (am_re base b)))) :
    ∀ (n pc : Nat) (ls : am_Ls) (st : List am_V) (h : am_H), am_run (am_call d) j n pc ls st h = some res → am_Xs mt b base s h → am_KK p l e R s m args below meth c Q mt base b n0 z0 D dA pc ls st h := by
  intro n
  induction n with
  | zero => intro pc ls st h q; cases q
  | succ n ih =>
    intro pc ls st h q X sl H locs cells slots hlo hst hr
    have q0 := q
    unfold am_run at q
    cases hx : am_one j pc ls st h with
    | none => rw [hx] at q; cases q
    | some y =>
      rw [hx] at q
      unfold am_one at hx
      rw [hmt] at hx
      split at hx
      · next m9 i k e1 e2 =>
        cases e1
        obtain ⟨hd, hlok⟩ := am_code_ok hmt e2
        have hle := am_le_next hx
        have h6 := hr.2.2.2.2.2.1
        rcases y with ⟨pc2, ls2, st2, h2⟩ | y | ⟨j2, as, pc2, ls2, r2, h2⟩
        · have q : am_run (am_call d) j n pc2 ls2 st2 h2 = some res := q
          have hl2 := am_le_run (am_le_call d) n _ _ _ _ _ q
          exact am_stepW C K X hlok hd hx ⟨Nat.le_trans hl2.1 hfit.1, Nat.le_trans hl2.2.1 hfit.2⟩ ⟨by omega, by omega⟩ hlo hst hr (ih pc2 ls2 st2 h2 q (X.keep h6 hle))
        · cases q
          exact hend pc i k ls st h sl H locs cells slots hd hlok hx hr hst
        · obtain ⟨a, kd, hkd, hinv⟩ := am_inv_of_call hx
          have hk3 : k = 3 := by
            rcases hkd with ⟨rfl, -⟩ | ⟨rfl, -⟩ | ⟨rfl, -⟩ <;> simpa [am_lok] using hlok
          subst hk3
          obtain ⟨e3, e4, e5, hw, nn, hcase⟩ := am_inv_call hinv
          subst e3; subst e4; subst e5
          have q : (match am_call d j2 as h2 with
            | none => none
            | some (v, h') => am_run (am_call d) j n (pc + 3) ls2 (v.toList ++ r2) h') = some res := q
          split at q
          · cases q
          · next v h' hc =>
            have hd1 : 1 ≤ d := by
              cases d with
              | zero => cases hc
              | succ d => omega
            have hlc := am_le_call d _ _ _ _ _ hc
            have hl2 := am_le_run (am_le_call d) n _ _ _ _ _ q
            have f5 := hr.2.2.1
            have f6 := hr.2.2.2.1
            have g1 := hlc.1
            have g2 := hlc.2.1
            have g3 := hl2.1
            have g4 := hl2.2.1
            have g5 := hfit.1
            have g6 := hfit.2
            have hf : cells + (h'.1.length - h2.1.length) ≤ R.cells ∧ slots + (am_sz h'.1 - am_sz h2.1) ≤ R.slots := ⟨by omega, by omega⟩
            have go : ∀ av, va_Run p l e R s m args below meth c H locs cells slots (h'.1.length - h2.1.length) (am_sz h'.1 - am_sz h2.1) (F0 m pc sl (st.map (am_re base b))) (r2.map (am_re base b)) (am_Qc base b D dA v h' av) (fun q => base < q) → am_rgS r2 → W p l e R s m args below meth c H locs cells slots Q (F0 m pc sl (st.map (am_re base b))) := by
              intro av hrun hrg
              refine am_callW hrun hr rfl rfl hlc (fun H1 locs1 hr1 hv => ?_)
              have hst2 : am_rgS (v.toList ++ r2) := by
                cases v with
                | none => exact hrg
                | some v =>
                  intro z hz
                  rcases List.mem_cons.mp hz with e9 | e9
                  · exact hv z (by rw [e9])
                  · exact hrg z e9
              have w := ih (pc + 3) ls2 (v.toList ++ r2) h' q ((X.keep h6 hlc)) sl H1 locs1 _ _ hlo hst2 hr1
              have ev : (v.toList ++ r2).map (am_re base b) = (v.map (am_re base b)).toList ++ r2.map (am_re base b) := by cases v <;> rfl
              rw [ev] at w
              exact w
            have hs9 : ∀ {n : Nat} {as' r' : List am_V}, am_split n [] st = some (as', r') → am_rgS r' := fun hs => by
              obtain ⟨y, w1, w2, -⟩ := am_split_eq _ _ _ _ _ hs
              exact (am_rgS_of hst w2).2
            rcases hcase with ⟨rfl, hk, m2, a2, as', hm2, hs, ha, a0, rfl⟩ | ⟨rfl, hk, hs⟩ | ⟨rfl, hk, a2, as', hs, rfl⟩ | ⟨rfl, hk, a2, as', hs, rfl⟩
            · have hi : i = .invokevirtual a := by
                rcases hkd with ⟨w, -⟩ | ⟨-, w⟩ | ⟨-, w⟩
                · exact w
                · cases w
                · cases w
              subst hi
              obtain ⟨m3, hm3, ho, -⟩ := (am_lnk C.2.2.2.2.2.2.2 hk).2.2 (by omega)
              cases hm2.symm.trans hm3
              obtain ⟨av, hrun⟩ := am_invV (p := p) (e := e) (below := below) C K hlo hst hr hk hm2 hs ha a0 hw (IH _ _ _ _ _ hc m2 hm2 ho l base b D dA) hd1 hR hd hf
              exact go av hrun (am_rgS_t (hs9 hs))
            · have hi : i = .invokestatic a := by
                rcases hkd with ⟨-, w⟩ | ⟨w, -⟩ | ⟨-, w⟩
                · cases w
                · exact w
                · cases w
              subst hi
              obtain ⟨m3, hm3, ho, -⟩ := (am_lnk C.2.2.2.2.2.2.2 hk).2.2 (by omega)
              obtain ⟨av, hrun⟩ := am_invS (p := p) (e := e) (below := below) C K hlo hst hr hk hm3 hs hw (IH _ _ _ _ _ hc m3 hm3 ho l base b D dA) hd1 hR hd hf
              exact go av hrun (hs9 hs)
            · have hi : i = .invokespecial a := by
                rcases hkd with ⟨-, w⟩ | ⟨-, w⟩ | ⟨w, -⟩
                · cases w
                · cases w
                · exact w
              subst hi
              obtain ⟨m3, hm3, ho, -⟩ := (am_lnk C.2.2.2.2.2.2.2 hk).2.2 (by omega)
              obtain ⟨av, hrun⟩ := am_invI (p := p) (e := e) (below := below) C K hlo hst hr hk hm3 hs hw (IH _ _ _ _ _ hc m3 hm3 ho l base b D dA) hd1 hR hd hf
              exact go av hrun (am_rgS_t (hs9 hs))
            · have hi : i = .invokespecial a := by
                rcases hkd with ⟨-, w⟩ | ⟨-, w⟩ | ⟨w, -⟩
                · cases w
                · cases w
                · exact w
              subst hi
              obtain ⟨m3, hm3, ho, -⟩ := (am_lnk C.2.2.2.2.2.2.2 hk).2.2 (by omega)
              obtain ⟨av, hrun⟩ := am_invN (p := p) (e := e) (below := below) C K hlo hst hr hk hm3 hs hw (IH _ _ _ _ _ hc m3 hm3 ho l base b D dA) hd1 hR hd hf
              exact go av hrun (am_rgS_t (hs9 hs))
      · cases hx
end AMR
