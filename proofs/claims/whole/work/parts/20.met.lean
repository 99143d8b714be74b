/-! Every method of the claim keeps the contract that the abstract machine gives it. -/
theorem am_ent_args (base b : Nat) : ∀ (as : List am_V) (i k : Nat), am_as base b i (am_ent as ++ List.replicate k none) = lv_args i (as.map (am_re base b)) := by
  intro as
  induction as with
  | nil =>
    intro i k
    show am_as base b i (List.replicate k none) = []
    induction k generalizing i with
    | zero => rfl
    | succ k ih => exact ih (i + 1)
  | cons v r ih =>
    intro i k
    unfold am_ent
    rw [List.map_cons]
    unfold lv_args
    rw [am_re_cat]
    by_cases hc : am_c2 v = true
    · rw [if_pos hc, if_pos hc, if_pos rfl]
      show (i, am_re base b v) :: am_as base b (i + 1 + 1) (am_ent r ++ List.replicate k none) = _
      rw [ih]
    · rw [if_neg hc, if_neg hc, if_neg (by omega)]
      show (i, am_re base b v) :: am_as base b (i + 1) (am_ent r ++ List.replicate k none) = _
      rw [ih]
theorem am_ent_len (base b : Nat) : ∀ as : List am_V, (lg_sl (as.map (am_re base b))).length = (am_ent as).length := by
  intro as
  induction as with
  | nil => rfl
  | cons v r ih =>
    have e : lg_sl ((v :: r).map (am_re base b)) = (if (am_re base b v).category = 2 then [.val (am_re base b v), .second] else [.val (am_re base b v)]) ++ lg_sl (r.map (am_re base b)) := rfl
    rw [e, am_re_cat, List.length_append, ih, show am_ent (v :: r) = if am_c2 v = true then some v :: none :: am_ent r else some v :: am_ent r from rfl]
    by_cases hc : am_c2 v = true
    · rw [if_pos hc, if_pos hc, if_pos rfl]; simp; omega
    · rw [if_neg hc, if_neg hc, if_neg (by omega)]; simp; omega
theorem am_ent_mem : ∀ (as : List am_V) (k : Nat) (v : am_V), some v ∈ am_ent as ++ List.replicate k none → v ∈ as := by
  intro as
  induction as with
  | nil => intro k v h; simp [am_ent] at h
  | cons a r ih =>
    intro k v h
    unfold am_ent at h
    by_cases hc : am_c2 a = true
    · rw [if_pos hc] at h
      rcases List.mem_cons.mp h with h | h
      · cases h; exact List.mem_cons_self
      · rcases List.mem_cons.mp h with h | h
        · cases h
        · exact List.mem_cons_of_mem _ (ih k v h)
    · rw [if_neg hc] at h
      rcases List.mem_cons.mp h with h | h
      · cases h; exact List.mem_cons_self
      · exact List.mem_cons_of_mem _ (ih k v h)
theorem am_entry (base b n : Nat) {as : List am_V} (h : (am_ent as).length ≤ n) (hr : am_rgS as) : am_Lo base b n (am_pad n (am_ent as)) ((lg_sl (as.map (am_re base b)) ++ List.replicate (n - (lg_sl (as.map (am_re base b))).length) Slot.unset).toArray) := by
  have h1 := lv_entry (as.map (am_re base b)) (n := n) (by rw [am_ent_len]; exact h)
  refine ⟨?_, by unfold am_pad; simp; omega, fun x hx => hr x (am_ent_mem as _ _ hx)⟩
  rw [am_pad, am_ent_args]
  exact h1
theorem am_sound : ∀ d, am_Sd d := by
  intro d
  induction d with
  | zero => intro j as h v h' q; cases q
  | succ d IH =>
    intro j as h v h' q mt hmt ho l base b D dA
    have hmem := List.mem_of_getElem? hmt
    have hcall := q
    refine Met.ofW (cc := mt.2.1) (maxL := mt.2.2.1) (ret := mt.2.2.2.1) (am_meth hmem).1 rfl ?_
    intro p e s m args below meth c s₁ B hml hv
    obtain ⟨rfl, hP, hK, hrg, has, hN, h6, hb0⟩ := hv
    have C : am_Cx p s m ((as.map (am_re base b)).toArray) meth c mt := ⟨B.exec, B.bytes, hml, findClass_of_methodNamed B.named, fun w hw => atoms_spec (ws := am_ws mt) B.pre w (List.mem_cons_of_mem _ hw), fun _ => (name_of_methodNamed B.named B.method).1.trans (by assumption), hN, hmem⟩
    unfold am_call at q
    rw [hmt] at q
    simp only at q
    split at q
    · next hlen =>
      obtain ⟨n, hrun⟩ := am_go0_iff.mp q
      have hle := am_le_call (d + 1) _ _ _ _ _ hcall
      have g1 := hle.1
      have g2 := hle.2.1
      rw [lg_entry_eq]
      have hS : va_S (fun q => base < q) s.heap s.heap [] := va_S.rf
      refine am_runW (base := base) (b := b) (n0 := h.1.length) (z0 := am_sz h.1) (R := am_rm d (h'.1.length - h.1.length) (am_sz h'.1 - am_sz h.1)) IH hmt C hK ⟨Nat.le_refl _, Nat.le_refl _⟩ (v, h') ⟨by show h'.1.length ≤ h.1.length + (h'.1.length - h.1.length); omega, by show am_sz h'.1 ≤ am_sz h.1 + (am_sz h'.1 - am_sz h.1); omega⟩ ?_ n 0 _ [] h hrun (fun w => absurd w ho) _ s.heap [] 0 0 (am_entry base b _ hlen has) (fun x hx => by cases hx) ⟨hP, hS, by omega, by omega, hrg, h6, hb0⟩
      intro pc i k ls st h9 sl H locs cells slots hd hlok hx hr hst
      have hlocks := B.notSynchronized
      have hret := B.returns
      obtain ⟨a1, a2, a3, a4, a5, a6, a7⟩ := hr
      cases i
      case ireturn =>
        have hk1 : k = 1 := by simpa [am_lok] using hlok
        subst hk1
        simp only [am_next, am_ret] at hx
        split at hx
        · next z hz =>
          cases hx
          have e1 : cells = h'.1.length - h.1.length := by omega
          have e2 : slots = am_sz h'.1 - am_sz h.1 := by omega
          subst e1; subst e2
          rw [hz] at hret
          exact W.iret (v := Int32.ofInt z) C.1 C.2.1 hret (fun t ht hW => ⟨rfl, by rw [ht]; exact a1, a5, fun x hx => by cases hx; exact am_rgS_h hst, a2.F ht⟩) a2.2.2 hd
        · next z hz =>
          split at hx
          · next g =>
            cases hx
            have e1 : cells = h'.1.length - h.1.length := by omega
            have e2 : slots = am_sz h'.1 - am_sz h.1 := by omega
            subst e1; subst e2
            rw [hz] at hret
            exact W.zret (v := Int32.ofInt z) C.1 C.2.1 hret (by rcases g with g | g <;> subst g <;> rfl) (fun t ht hW => ⟨rfl, by rw [ht]; exact a1, a5, fun x hx => by cases hx; exact am_rgS_h hst, a2.F ht⟩) a2.2.2 hd
          · cases hx
        · cases hx
      case lreturn =>
        have hk1 : k = 1 := by simpa [am_lok] using hlok
        subst hk1
        simp only [am_next] at hx
        split at hx
        · next z hz =>
          cases hx
          have e1 : cells = h'.1.length - h.1.length := by omega
          have e2 : slots = am_sz h'.1 - am_sz h.1 := by omega
          subst e1; subst e2
          rw [hz] at hret
          exact W.lret (v := z) C.1 C.2.1 hret (fun t ht hW => ⟨rfl, by rw [ht]; exact a1, a5, (fun x hx => by cases hx), a2.F ht⟩) a2.2.2 hd
        · cases hx
      case return_ =>
        have hk1 : k = 1 := by simpa [am_lok] using hlok
        subst hk1
        simp only [am_next] at hx
        split at hx
        · next hz =>
          cases hx
          have e1 : cells = h'.1.length - h.1.length := by omega
          have e2 : slots = am_sz h'.1 - am_sz h.1 := by omega
          subst e1; subst e2
          rw [hz] at hret
          exact W.vret C.1 C.2.1 hret (fun t ht hW => ⟨rfl, by rw [ht]; exact a1, a5, (fun x hx => by cases hx), a2.F ht⟩) a2.2.2 hd
        · cases hx
      case invokevirtual => exact (am_inv_ret hx).elim
      case invokestatic => exact (am_inv_ret hx).elim
      case invokespecial => exact (am_inv_ret hx).elim
      all_goals exfalso
      all_goals simp only [am_next] at hx
      all_goals first
        | (cases hx; done)
        | (obtain ⟨-, w⟩ := am_jmp_inv hx; cases w; done)
        | (unfold am_load am_go at hx; split at hx <;> cases hx; done)
        | (unfold am_store am_go at hx; split at hx <;> first | (cases hx; done) | (split at hx <;> cases hx; done))
        | (unfold am_bin am_go at hx; split at hx <;> cases hx; done)
        | (unfold am_binL am_go at hx; split at hx <;> cases hx; done)
        | (unfold am_ial am_go at hx; split at hx <;> first | (cases hx; done) | (split at hx <;> cases hx; done))
        | (unfold am_bal am_go at hx; split at hx <;> first | (cases hx; done) | (split at hx <;> cases hx; done))
        | (unfold am_lal am_go at hx; split at hx <;> first | (cases hx; done) | (split at hx <;> cases hx; done))
        | (unfold am_ias am_go at hx; split at hx <;> first | (cases hx; done) | (split at hx <;> cases hx; done))
        | (unfold am_bas am_go at hx; split at hx <;> first | (cases hx; done) | (split at hx <;> cases hx; done))
        | (unfold am_las am_go at hx; split at hx <;> first | (cases hx; done) | (split at hx <;> cases hx; done))
        | (unfold am_len am_go at hx; split at hx <;> first | (cases hx; done) | (split at hx <;> first | (cases hx; done) | (split at hx <;> cases hx; done)))
        | (unfold am_gf am_go at hx; split at hx <;> first | (cases hx; done) | (split at hx <;> first | (cases hx; done) | (split at hx <;> cases hx; done)))
        | (unfold am_pf am_go at hx; split at hx <;> first | (cases hx; done) | (split at hx <;> first | (cases hx; done) | (split at hx <;> first | (cases hx; done) | (split at hx <;> cases hx; done))))
        | (unfold am_new am_go at hx; split at hx <;> cases hx; done)
        | (unfold am_newa am_go at hx; split at hx <;> first | (cases hx; done) | (split at hx <;> cases hx; done))
        | (split at hx <;> first | (cases hx; done) | (obtain ⟨-, w⟩ := am_jmp_inv hx; cases w; done) | (split at hx <;> first | (cases hx; done) | (obtain ⟨-, w⟩ := am_jmp_inv hx; cases w; done)))
    · cases q
