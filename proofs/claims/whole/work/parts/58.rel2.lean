/-! What holds between the class's cells and the reference's: FITS, DICTIONARIES, what was told. -/
/-- a NODE names what is there: for a CLASS cl with nx CONTEXTS from cb on, and VARIABLES below v -/
def am_nok (mb su sr cc op kd na nb : Int → Int) (cl nx cb v n : Int) : Prop :=
  (kd n = 1 → na n < mb cl) ∧ (kd n = 2 → na n < nx ∧ nb n < mb (cc (cb + na n))) ∧ (kd n = 3 → na n < su cl ∧ nb n < mb (sr (cl * 3 + na n))) ∧ (kd n = 4 → op (nb n) ≤ v)
def am_fit (P : Int → Prop) (kd na nb nc : Int → Int) : Nat → Int → Prop
  | 0, _ => True
  | k + 1, n => P n ∧ (5 ≤ kd n → am_fit P kd na nb nc k (na n) ∧ am_fit P kd na nb nc k (nb n)) ∧ (kd n = 9 → am_fit P kd na nb nc k (nc n))
/-- BODIES and STANDARDS FIT -/
def am_RF (nC nI nN : Int) (mb su sr sd ic ih ix cc bd pl op kd na nb nc : Int → Int) : Prop :=
  (∀ c, 0 ≤ c → c < nC → ∀ m, 0 ≤ m → m < 4 → sd (c * 4 + m) = -1 ∨ (0 ≤ sd (c * 4 + m) ∧ sd (c * 4 + m) < nN ∧ am_fit (am_nok mb su sr cc op kd na nb c 0 0 1) kd na nb nc 9 (sd (c * 4 + m)))) ∧
  (∀ i, 0 ≤ i → i < nI → ∀ m, 0 ≤ m → m < 4 → bd (i * 4 + m) = -1 ∨ (0 ≤ bd (i * 4 + m) ∧ bd (i * 4 + m) < nN ∧ am_fit (am_nok mb su sr cc op kd na nb (ic i) (ix i) (i * 3) (pl (ih i))) kd na nb nc 9 (bd (i * 4 + m))))
abbrev am_RFI (I : Nat → Int → Int) : Prop := am_RF (I 10 4) (I 15 8) (I 22 8) (I 11) (I 12) (I 13) (I 14) (I 16) (I 17) (I 18) (I 19) (I 21) (I 3) (I 7) (I 23) (I 24) (I 25) (I 26)
/-- a MEMBER of a DICTIONARY: idle, or worked, or (b: when that may be) being worked -/
def am_vst (b : Prop) (st wk be : Int) (v w : Int64) : Prop := (st = 0 ∧ wk = 0 ∧ be = 0) ∨ (st = 2 ∧ wk = 1 ∧ be = 0 ∧ w = v) ∨ (b ∧ st = 1 ∧ wk = 0 ∧ be = 1)
/-- DICTIONARIES: pm tells how many PARTS each has already -/
def am_RD (nD mD nC nt nI : Int) (hd op ic ih ix su cc sr pm dc dt di pt dm tm im qm st bg wk be gm : Int → Int) (v w : Int → Int64) (b : Int → Prop) : Prop :=
  0 ≤ nD ∧ nD ≤ 60 ∧ mD = nD ∧ ∀ d, 0 ≤ d → d < nD → dm d = dc d ∧ 0 ≤ dc d ∧ dc d < nC ∧ tm d = dt d ∧ 2 ≤ dt d ∧ dt d < nt ∧ op (dt d) = 0 ∧ im d = di d ∧ 0 ≤ di d ∧ di d < nI ∧ ic (di d) = dc d ∧ ih (di d) = hd (dt d) ∧
    (∀ k, 0 ≤ k → k < pm d → qm (d * 6 + k) = pt (d * 6 + k) ∧ 0 ≤ pt (d * 6 + k) ∧ pt (d * 6 + k) < nD ∧ dc (pt (d * 6 + k)) = (if k < ix (di d) then cc (di d * 3 + k) else sr (dc d * 3 + (k - ix (di d))))) ∧
    (∀ m, 0 ≤ m → m < 4 → gm (d * 4 + m) = bg (d * 4 + m) ∧ am_vst (b (d * 4 + m)) (st (d * 4 + m)) (wk (d * 4 + m)) (be (d * 4 + m)) (v (d * 4 + m)) (w (d * 4 + m)))
abbrev am_RDI (I : Nat → Int → Int) (L : Nat → Int → Int64) (b : Int → Prop) : Prop := am_RD (I 33 9) (I 53 28) (I 10 4) (I 2 6) (I 15 8) (I 4) (I 7) (I 16) (I 17) (I 18) (I 12) (I 19) (I 13) (I 37) (I 34) (I 35) (I 36) (I 38) (I 77) (I 78) (I 79) (I 80) (I 30) (I 32) (I 81) (I 82) (I 84) (L 31) (L 83) b
/-- the PARTS of all DICTIONARIES are there -/
def am_RM (nD : Int) (pm dc di ix su : Int → Int) : Prop := ∀ d, 0 ≤ d → d < nD → pm d = ix (di d) + su (dc d)
abbrev am_RMI (I : Nat → Int → Int) : Prop := am_RM (I 33 9) (I 37) (I 34) (I 36) (I 18) (I 12)
/-- what was told -/
def am_RP (lc lt mc mt f f1 f2 s g g1 g2 t : Int) (sd sm td tm : Int → Int) : Prop := mc = lc ∧ mt = lt ∧ g = f ∧ g1 = f1 ∧ g2 = f2 ∧ t = s ∧ 0 ≤ s ∧ s ≤ 240 ∧ ∀ k, 0 ≤ k → k < s → td k = sd k ∧ tm k = sm k
abbrev am_RPI (I : Nat → Int → Int) : Prop := am_RP (I 33 10) (I 33 11) (I 53 37) (I 53 38) (I 41 0) (I 41 1) (I 41 2) (I 41 5) (I 53 50) (I 53 51) (I 53 52) (I 53 53) (I 42) (I 43) (I 93) (I 94)
/-- a VARIABLE that stands in a TYPE stands in an ARGUMENT of it -/
def am_RO (nt : Int) (lf rt op : Int → Int) : Prop := ∀ t, 2 ≤ t → t < nt → op t = 0 ∨ (0 ≤ lf t ∧ lf t < t ∧ op t ≤ op (lf t)) ∨ (0 ≤ rt t ∧ rt t < t ∧ op t ≤ op (rt t))
abbrev am_ROI (I : Nat → Int → Int) : Prop := am_RO (I 2 6) (I 5) (I 6) (I 7)
theorem am_RO_add {nt : Int} {lf rt op : Int → Int} (h : am_RO nt lf rt op) {a b o : Int} (ho : o = 0 ∨ (0 ≤ a ∧ a < nt ∧ o ≤ op a) ∨ (0 ≤ b ∧ b < nt ∧ o ≤ op b)) : am_RO (nt + 1) (am_up lf nt a) (am_up rt nt b) (am_up op nt o) := by
  intro t t0 t1
  by_cases e : t = nt
  · subst e
    rw [am_up_s, am_up_s, am_up_s]
    rcases ho with q | ⟨q1, q2, q3⟩ | ⟨q1, q2, q3⟩
    · exact Or.inl q
    · refine Or.inr (Or.inl ⟨q1, q2, ?_⟩); rw [am_up_n _ _ (by omega)]; exact q3
    · refine Or.inr (Or.inr ⟨q1, q2, ?_⟩); rw [am_up_n _ _ (by omega)]; exact q3
  · rw [am_up_n _ _ e, am_up_n _ _ e, am_up_n _ _ e]
    rcases h t t0 (by omega) with q | ⟨q1, q2, q3⟩ | ⟨q1, q2, q3⟩
    · exact Or.inl q
    · refine Or.inr (Or.inl ⟨q1, q2, ?_⟩); rw [am_up_n _ _ (by omega)]; exact q3
    · refine Or.inr (Or.inr ⟨q1, q2, ?_⟩); rw [am_up_n _ _ (by omega)]; exact q3
abbrev am_oo (op : Int → Int) (a b : Int) : Int := if (if a = -1 then 0 else op a) < (if b = -1 then 0 else op b) then (if b = -1 then 0 else op b) else (if a = -1 then 0 else op a)
theorem am_oo_ok {op : Int → Int} {nt a b : Int} (ha : (0 ≤ a ∧ a < nt) ∨ a = -1) (hb : (0 ≤ b ∧ b < nt) ∨ b = -1) : am_oo op a b = 0 ∨ (0 ≤ a ∧ a < nt ∧ am_oo op a b ≤ op a) ∨ (0 ≤ b ∧ b < nt ∧ am_oo op a b ≤ op b) := by
  unfold am_oo
  rcases ha with ⟨a0, a1⟩ | ha <;> rcases hb with ⟨b0, b1⟩ | hb
  · rw [if_neg (show a ≠ -1 by omega), if_neg (show b ≠ -1 by omega)]
    by_cases q : op a < op b
    · rw [if_pos q]; exact Or.inr (Or.inr ⟨b0, b1, Int.le_refl _⟩)
    · rw [if_neg q]; exact Or.inr (Or.inl ⟨a0, a1, Int.le_refl _⟩)
  · rw [if_neg (show a ≠ -1 by omega), if_pos hb]
    by_cases q : op a < 0
    · rw [if_pos q]; exact Or.inl rfl
    · rw [if_neg q]; exact Or.inr (Or.inl ⟨a0, a1, Int.le_refl _⟩)
  · rw [if_pos ha, if_neg (show b ≠ -1 by omega)]
    by_cases q : 0 < op b
    · rw [if_pos q]; exact Or.inr (Or.inr ⟨b0, b1, Int.le_refl _⟩)
    · rw [if_neg q]; exact Or.inl rfl
  · rw [if_pos ha, if_pos hb, if_neg (by omega)]; exact Or.inl rfl
/-- between two calls -/
def am_Rel (I : Nat → Int → Int) (L : Nat → Int → Int64) : Prop := am_RTI I ∧ am_RCI I ∧ am_RII I ∧ am_RNI I ∧ am_RFI I ∧ am_RDI I L (fun _ => False) ∧ am_RMI I ∧ am_RPI I ∧ I 44 12 = 0 ∧ I 44 16 = 0 ∧ am_ROI I
/-- a call of both sides, one behind the other -/
def am_Sim (jc jm : Nat) (as : List am_V) : Prop := ∀ (N : Nat) (I : Nat → Int → Int) (L : Nat → Int → Int64), am_Rel I L → ∃ (r : am_V) (I1 : Nat → Int → Int) (L1 : Nat → Int → Int64), am_call 9 jc (.inr (.inr (some 1)) :: as) (am_GS N, am_GR, I, L) = some (some r, (am_GS N, am_GR, I1, L1)) ∧ ∃ (I2 : Nat → Int → Int) (L2 : Nat → Int → Int64), am_call 9 jm (.inr (.inr (some 53)) :: as) (am_GS N, am_GR, I1, L1) = some (some r, (am_GS N, am_GR, I2, L2)) ∧ am_Rel I2 L2
/-- the same DICTIONARIES of more TYPES, CONSTRUCTORS, NODES -/
theorem am_RD_grow {nD mD nC nt nI nt2 : Int} {hd op ic ih ix su cc sr pm dc dt di pt dm tm im qm st bg wk be gm hd2 op2 : Int → Int} {v w : Int → Int64} {b : Int → Prop} (h : am_RD nD mD nC nt nI hd op ic ih ix su cc sr pm dc dt di pt dm tm im qm st bg wk be gm v w b) (ht : nt ≤ nt2) (he : ∀ t, 0 ≤ t → t < nt → hd2 t = hd t ∧ op2 t = op t) : am_RD nD mD nC nt2 nI hd2 op2 ic ih ix su cc sr pm dc dt di pt dm tm im qm st bg wk be gm v w b := by
  obtain ⟨a1, a2, a3, a4⟩ := h
  refine ⟨a1, a2, a3, fun d d0 d1 => ?_⟩
  obtain ⟨b1, b2, b3, b4, b5, b6, b7, b8, b9, b10, b11, b12, b13, b14⟩ := a4 d d0 d1
  obtain ⟨e1, e2⟩ := he (dt d) (by omega) b6
  exact ⟨b1, b2, b3, b4, b5, by omega, by rw [e2]; exact b7, b8, b9, b10, b11, by rw [e1]; exact b12, b13, b14⟩
theorem am_RD_none {nD mD nC nt nI : Int} {hd op ic ih ix su cc sr pm dc dt di pt dm tm im qm st bg wk be gm : Int → Int} {v w : Int → Int64} {b : Int → Prop} (h1 : nD = 0) (h2 : mD = 0) : am_RD nD mD nC nt nI hd op ic ih ix su cc sr pm dc dt di pt dm tm im qm st bg wk be gm v w b := by
  subst h1; subst h2
  exact ⟨by omega, by omega, rfl, fun d d0 d1 => by omega⟩
theorem am_RM_none {nD : Int} {pm dc di ix su : Int → Int} (h1 : nD = 0) : am_RM nD pm dc di ix su := fun d d0 d1 => by omega
theorem am_fit_mono {P Q : Int → Prop} {kd na nb nc kd2 na2 nb2 nc2 : Int → Int} (hPQ : ∀ n, kd2 n = kd n ∧ na2 n = na n ∧ nb2 n = nb n ∧ nc2 n = nc n ∧ (P n → Q n)) : ∀ (k : Nat) (n : Int), am_fit P kd na nb nc k n → am_fit Q kd2 na2 nb2 nc2 k n := by
  intro k
  induction k with
  | zero => intro n _; trivial
  | succ k ih =>
    intro n h
    obtain ⟨h1, h2, h3⟩ := h
    obtain ⟨e1, e2, e3, e4, e5⟩ := hPQ n
    refine ⟨e5 h1, fun q => ?_, fun q => ?_⟩
    · rw [e1] at q; rw [e2, e3]
      exact ⟨ih _ (h2 q).1, ih _ (h2 q).2⟩
    · rw [e1] at q; rw [e4]
      exact ih _ (h3 q)
