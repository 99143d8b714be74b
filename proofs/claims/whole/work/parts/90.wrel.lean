/-! value(): what holds between the class and the reference while they work. -/
def am_Fr0 (I0 I : Nat → Int → Int) : Prop := (∀ k : Nat, (k = 3 ∨ (10 ≤ k ∧ k ≤ 27)) → I k = I0 k) ∧ I0 2 6 ≤ I 2 6 ∧ (∀ t, t < I0 2 6 → I 7 t = I0 7 t) ∧ I 2 1 = I0 2 1 ∧ ∀ n, 0 ≤ n → n < I0 22 8 → I0 23 n = 4 → 0 ≤ I0 25 n ∧ I0 25 n < I0 2 6
abbrev am_cells (fs : List am_F) : List Int := fs.map (fun f => am_fd1 f * 4 + am_fd2 f)
/-- the state of all but the rows of those at work -/
def am_WB (I0 I J : Nat → Int → Int) (L M : Nat → Int → Int64) (cs : List Int) : Prop := am_RT2 I J ∧ am_RC2 I J ∧ am_RI2 I J ∧ am_RN2 I J ∧ am_RFI I0 ∧ am_ROI I ∧ am_RD2 I J L M (fun c => c ∈ cs) ∧ am_RMI I ∧ am_RP2 I J ∧ am_Fr0 I0 I
def am_WX (I I1 : Nat → Int → Int) : Prop := ∀ k : Nat, ¬ (44 ≤ k ∧ k ≤ 52) → I1 k = I k
def am_MX (J J1 : Nat → Int → Int) : Prop := (∀ k : Nat, ¬ (k = 53 ∨ (88 ≤ k ∧ k ≤ 92)) → J1 k = J k) ∧ ∀ j : Int, j ≠ 43 → j ≠ 45 → j ≠ 49 → J1 53 j = J 53 j
theorem am_WX_refl (I : Nat → Int → Int) : am_WX I I := fun _ _ => rfl
theorem am_MX_refl (I : Nat → Int → Int) : am_MX I I := ⟨fun _ _ => rfl, fun _ _ _ _ => rfl⟩
theorem am_WX_trans {I I1 I2 : Nat → Int → Int} (h1 : am_WX I I1) (h2 : am_WX I1 I2) : am_WX I I2 := fun k hk => (h2 k hk).trans (h1 k hk)
theorem am_MX_trans {I I1 I2 : Nat → Int → Int} (h1 : am_MX I I1) (h2 : am_MX I1 I2) : am_MX I I2 := ⟨fun k hk => (h2.1 k hk).trans (h1.1 k hk), fun j a b c => (h2.2 j a b c).trans (h1.2 j a b c)⟩
theorem am_WX_u (I : Nat → Int → Int) (k : Nat) (j v : Int) (h : 44 ≤ k ∧ k ≤ 52) : am_WX I (am_uI I k j v) := fun x hx => by
  rw [am_uI_c, if_neg (by omega)]
theorem am_MX_u (I : Nat → Int → Int) (k : Nat) (j v : Int) (h : 88 ≤ k ∧ k ≤ 92) : am_MX I (am_uI I k j v) := ⟨fun x hx => by
  rw [am_uI_c, if_neg (by omega)], fun _ _ _ _ => by rw [am_uI_c, if_neg (by omega)]⟩
theorem am_MX_f (I : Nat → Int → Int) (j v : Int) (h : j = 43 ∨ j = 45 ∨ j = 49) : am_MX I (am_uI I 53 j v) := ⟨fun x hx => by
  rw [am_uI_c, if_neg (by omega)], fun y _ _ _ => by rw [am_uI_c, if_pos rfl]; exact am_up_n _ _ (by omega)⟩
theorem am_WB_x {I0 I J I1 J1 : Nat → Int → Int} {L M L1 M1 : Nat → Int → Int64} {cs : List Int} (h : am_WB I0 I J L M cs) (f : am_WX I I1) (g : am_MX J J1) (hL : L1 31 = L 31) (hM : M1 83 = M 83) : am_WB I0 I1 J1 L1 M1 cs := by
  obtain ⟨g, g2⟩ := g
  unfold am_WB am_Fr0
  unfold am_WB am_Fr0 at h
  obtain ⟨h1, h2, h3, h4, h5, h6, h7, h8, h9, h10, h11⟩ := h
  have f53 : ∀ j : Int, j ≠ 43 → j ≠ 45 → j ≠ 49 → J1 53 j = J 53 j := g2
  simp only [am_RT2, am_RC2, am_RI2, am_RN2, am_ROI, am_RD2, am_RMI, am_RP2, f 2 (by decide), f 3 (by decide), f 4 (by decide), f 5 (by decide), f 6 (by decide), f 7 (by decide), f 10 (by decide), f 11 (by decide), f 12 (by decide), f 13 (by decide), f 14 (by decide), f 15 (by decide), f 16 (by decide), f 17 (by decide), f 18 (by decide), f 19 (by decide), f 20 (by decide), f 21 (by decide), f 22 (by decide), f 23 (by decide), f 24 (by decide), f 25 (by decide), f 26 (by decide), f 27 (by decide), f 30 (by decide), f 32 (by decide), f 33 (by decide), f 34 (by decide), f 35 (by decide), f 36 (by decide), f 37 (by decide), f 38 (by decide), f 41 (by decide), f 42 (by decide), f 43 (by decide), g 54 (by decide), g 55 (by decide), g 56 (by decide), g 57 (by decide), g 58 (by decide), g 61 (by decide), g 62 (by decide), g 63 (by decide), g 64 (by decide), g 65 (by decide), g 66 (by decide), g 67 (by decide), g 68 (by decide), g 69 (by decide), g 70 (by decide), g 71 (by decide), g 72 (by decide), g 73 (by decide), g 74 (by decide), g 75 (by decide), g 77 (by decide), g 78 (by decide), g 79 (by decide), g 80 (by decide), g 81 (by decide), g 82 (by decide), g 84 (by decide), g 93 (by decide), g 94 (by decide), hL, hM, f53 0 (by decide) (by decide) (by decide), f53 2 (by decide) (by decide) (by decide), f53 9 (by decide) (by decide) (by decide), f53 14 (by decide) (by decide) (by decide), f53 21 (by decide) (by decide) (by decide), f53 28 (by decide) (by decide) (by decide), f53 37 (by decide) (by decide) (by decide), f53 38 (by decide) (by decide) (by decide), f53 50 (by decide) (by decide) (by decide), f53 51 (by decide) (by decide) (by decide), f53 52 (by decide) (by decide) (by decide), f53 53 (by decide) (by decide) (by decide)]
  refine ⟨h1, h2, h3, h4, h5, h6, h7, h8, h9, fun k hk => ?_, h11⟩
  rw [f k (by omega)]
  exact h10 k hk
/-- the class's rows -/
def am_WC (I : Nat → Int → Int) (L : Nat → Int → Int64) (fs : List am_F) : Prop := am_skk (I 50) (am_ON fs) (I 44 16) ∧ am_skk (I 51) (am_TU fs) (I 44 16) ∧ am_skk (L 52) (am_LV fs) (I 44 16) ∧ am_skk (I 45) (fs.map am_fd1) (I 44 12) ∧ am_skk (I 46) (fs.map am_fd2) (I 44 12) ∧ am_skk (I 47) (fs.map am_fd3) (I 44 12) ∧ am_skk (I 48) (fs.map am_fd4) (I 44 12) ∧ am_skk (I 49) (am_FL fs) (I 44 12)
/-- the reference's rows -/
def am_WM (J : Nat → Int → Int) (M : Nat → Int → Int64) (ts : List Int) (vs : List Int64) (fs : List am_F) : Prop := am_skk (J 88) ts (J 53 43) ∧ am_skk (M 89) vs (J 53 45) ∧ am_skk (J 90) (fs.map am_fd1) (J 53 49) ∧ am_skk (J 91) (fs.map am_fd2) (J 53 49) ∧ am_skk (J 92) (fs.map am_fd5) (J 53 49)
def am_gE (P : Int → Prop) (I0 : Nat → Int → Int) : List am_En → Prop
  | [] => True
  | e :: es => 0 ≤ e.1 ∧ e.1 < I0 22 8 ∧ I0 27 e.1 + (es.length : Int) ≤ 8 ∧ am_fit P (I0 23) (I0 24) (I0 25) (I0 26) (9 - es.length) e.1 ∧ am_gE P I0 es
def am_PF (I0 : Nat → Int → Int) (c i s : Int) : Int → Prop := if s = 1 then am_nokI I0 c 0 0 1 else am_nokI I0 c (I0 18 i) (i * 3) (I0 3 (I0 17 i))
def am_gF (I0 I : Nat → Int → Int) (f : am_F) : Prop := 0 ≤ am_fd1 f ∧ am_fd1 f < I 33 9 ∧ 0 ≤ am_fd2 f ∧ am_fd2 f < I 11 (I 34 (am_fd1 f)) ∧ I 30 (am_fd1 f * 4 + am_fd2 f) = 1 ∧ am_fd6 f ≠ [] ∧ ((am_fd5 f = 1 ∧ am_fd3 f = I 35 (am_fd1 f) ∧ am_fd4 f = -1) ∨ (am_fd5 f = 0 ∧ am_fd3 f = I 5 (I 35 (am_fd1 f)) ∧ am_fd4 f = I 6 (I 35 (am_fd1 f)))) ∧ am_gE (am_PF I0 (I 34 (am_fd1 f)) (I 36 (am_fd1 f)) (am_fd5 f)) I0 (am_fd6 f)
def am_ds : List Int → Prop
  | [] => True
  | c :: cs => c ∉ cs ∧ am_ds cs
def am_on (st : Int → Int) : Int → Int := fun c => if st c = 0 then 0 else 1
def am_nz (st : Int → Int) (nD : Int) : Int := am_sm (am_on st) 0 (nD * 4).toNat
def am_WG (I0 I : Nat → Int → Int) (fs : List am_F) : Prop := (∀ f ∈ fs, am_gF I0 I f) ∧ am_ds (am_cells fs) ∧ (fs.length : Int) ≤ 40 ∧ I 41 5 + (fs.length : Int) ≤ am_nz (I 30) (I 33 9)
def am_okE (kd : Int → Int) (e : am_En) : Prop := (e.2.1 = 1 ∧ 1 ≤ kd e.1) ∨ (e.2.1 = 2 ∧ 5 ≤ kd e.1)
def am_okF (kd : Int → Int) (fs : List am_F) : Prop := ∀ f ∈ fs, ∀ e ∈ am_fd6 f, am_okE kd e
/-- a value has come -/
def am_WR (I0 I J : Nat → Int → Int) (L M : Nat → Int → Int64) (fs : List am_F) : Prop := am_WB I0 I J L M (am_cells fs) ∧ I 41 0 = 0 ∧ am_WC I L fs ∧ am_WM J M (am_TL (I0 23) (I0 25) fs) (L 44 17 :: am_VL (I0 23) fs) fs ∧ am_WG I0 I fs ∧ am_okF (I0 23) fs
/-- a NODE is to be gone into -/
def am_WE (I0 I J : Nat → Int → Int) (L M : Nat → Int → Int64) (d m z w s n : Int) (l : Int64) (es : List am_En) (fs : List am_F) : Prop := am_WB I0 I J L M ((d * 4 + m) :: am_cells fs) ∧ I 41 0 = 0 ∧ am_WC I L ((d, m, z, w, s, (n, 0, l) :: es) :: fs) ∧ am_WM J M (am_TL (I0 23) (I0 25) ((d, m, z, w, s, (n, 0, l) :: es) :: fs)) (am_VL (I0 23) ((d, m, z, w, s, (n, 0, l) :: es) :: fs)) ((d, m, z, w, s, (n, 0, l) :: es) :: fs) ∧ am_WG I0 I ((d, m, z, w, s, (n, 0, l) :: es) :: fs) ∧ (∀ e ∈ es, am_okE (I0 23) e) ∧ am_okF (I0 23) fs
/-- a FAULT is told; what is left when all is given up -/
def am_WF (I J : Nat → Int → Int) (L M : Nat → Int → Int64) : Prop := (0 ≤ I 44 12 ∧ I 44 12 ≤ 40 ∧ ∀ i, 0 ≤ i → i < I 44 12 → 0 ≤ I 45 i ∧ I 45 i < 60 ∧ 0 ≤ I 46 i ∧ I 46 i < 4) ∧ I 41 0 ≠ 0 ∧ J 53 50 ≠ 0 ∧ am_Rel2 (am_gvn I) (am_sI J 82 (am_zr (J 82) 0 240)) L M
theorem am_on_up0 {st : Int → Int} {c v : Int} (hv : v ≠ 0) : am_on (am_up st c v) = am_up (am_on st) c 1 := by
  funext x
  unfold am_on
  rw [am_up_a, am_up_a]
  by_cases e : x = c
  · rw [if_pos e, if_pos e, if_neg hv]
  · rw [if_neg e, if_neg e]
theorem am_on_01 (st : Int → Int) (c : Int) : 0 ≤ am_on st c ∧ am_on st c ≤ 1 := by
  unfold am_on
  by_cases e : st c = 0
  · rw [if_pos e]; omega
  · rw [if_neg e]; omega
theorem am_nz_b {st : Int → Int} {nD : Int} (h0 : 0 ≤ nD) (h : nD ≤ 60) : 0 ≤ am_nz st nD ∧ am_nz st nD ≤ 240 := by
  have h1 := am_sm_b1 (am_on st) 0 (nD * 4).toNat (fun i _ _ => (am_on_01 st i).2)
  have h2 := am_sm_b0 (am_on st) 0 (nD * 4).toNat (fun i _ _ => (am_on_01 st i).1)
  unfold am_nz
  omega
theorem am_nz_beg {st : Int → Int} {nD c : Int} (c0 : 0 ≤ c) (c1 : c < nD * 4) (hc : st c = 0) : am_nz (am_up st c 1) nD = am_nz st nD + 1 := by
  unfold am_nz
  rw [am_on_up0 (by omega), am_sm_up _ _ _ _ c0 _ (by omega)]
  have : am_on st c = 0 := if_pos hc
  omega
theorem am_nz_end {st : Int → Int} {nD c : Int} (c0 : 0 ≤ c) (c1 : c < nD * 4) (hc : st c = 1) : am_nz (am_up st c 2) nD = am_nz st nD := by
  unfold am_nz
  rw [am_on_up0 (by omega), am_sm_up _ _ _ _ c0 _ (by omega)]
  have : am_on st c = 1 := if_neg (by omega)
  omega
theorem am_sm_app (f : Int → Int) (a : Int) (n : Nat) : ∀ k : Nat, am_sm f a (n + k) = am_sm f a n + am_sm f (a + n) k := by
  intro k
  induction k with
  | zero => show am_sm f a n = am_sm f a n + 0; omega
  | succ k ih =>
    show am_sm f a (n + k) + f (a + ((n + k : Nat) : Int)) = am_sm f a n + (am_sm f (a + n) k + f (a + n + (k : Int)))
    rw [ih, show a + ((n + k : Nat) : Int) = a + n + (k : Int) by omega]
    omega
theorem am_nz_grow {st st2 : Int → Int} {nD nD2 : Int} (h0 : 0 ≤ nD) (h : nD ≤ nD2) (he : ∀ c, 0 ≤ c → c < nD * 4 → st2 c = st c) : am_nz st nD ≤ am_nz st2 nD2 := by
  unfold am_nz
  have e1 := am_sm_app (am_on st2) 0 (nD * 4).toNat ((nD2 * 4).toNat - (nD * 4).toNat)
  rw [show (nD * 4).toNat + ((nD2 * 4).toNat - (nD * 4).toNat) = (nD2 * 4).toNat by omega] at e1
  have e2 := am_sm_b0 (am_on st2) (0 + ((nD * 4).toNat : Int)) ((nD2 * 4).toNat - (nD * 4).toNat) (fun i _ _ => (am_on_01 st2 i).1)
  have e3 := am_sm_congr (am_on st2) (am_on st) 0 (nD * 4).toNat (fun i i0 i1 => by
    unfold am_on
    rw [he i i0 (by omega)])
  omega
