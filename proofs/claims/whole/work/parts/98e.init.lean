/-! What stands behind the two constructors. -/
def am_nwM (h : am_H) : am_H := (h.1 ++ [(12, 0)], am_zR h.2.1 h.1.length, am_zI h.2.2.1 h.1.length, am_zL h.2.2.2 h.1.length)
def am_r1 : Option am_Re := am_rc 1000 9 111 [.inr (.inr (some 1))] am_hA
def am_nx1 (o : Option am_Re) : Option am_Re := match o with
  | some (none, h) => am_rc 1000 9 133 [.inr (.inr (some 53))] (am_nwM h)
  | _ => none
def am_r2 : Option am_Re := am_nx1 am_r1
def am_rfd (k f : Nat) : Bool := match (am_GS 0)[k]? with
  | some (t, _) => Nat.ble 3 t && (am_ft (t - 3) f == 2)
  | none => false
def am_fR (R : Nat → Int → Option Nat) : Bool := (List.range 95).all (fun k => (List.range 60).all (fun f => if am_rfd k f = true then R k (f : Int) == am_GR k (f : Int) else am_GR k (f : Int) == none))
def am_all (n : Nat) (g : Int → Int) (v : Int) : Bool := (List.range n).all (fun c => decide (g (c : Int) = v))
def am_fI (I : Nat → Int → Int) : Bool := am_all 8 (I 12) 0 && am_all 32 (I 14) (-1) && am_all 20 (I 18) 0 && am_all 80 (I 21) (-1) && decide (I 2 1 = 0) && decide (I 2 6 = 2) && decide (I 53 0 = 0) && decide (I 53 2 = 2) && decide (I 4 0 = -1) && decide (I 4 1 = -1) && decide (I 5 0 = -1) && decide (I 5 1 = -1) && decide (I 6 0 = -1) && decide (I 6 1 = -1) && decide (I 7 0 = 1) && decide (I 7 1 = 2) && decide (I 55 0 = -1) && decide (I 55 1 = -1) && decide (I 56 0 = -1) && decide (I 56 1 = -1) && decide (I 57 0 = -1) && decide (I 57 1 = -1) && decide (I 58 0 = 1) && decide (I 58 1 = 2) && decide (I 10 4 = 0) && decide (I 53 9 = 0) && decide (I 15 8 = 0) && decide (I 53 14 = 0) && decide (I 22 8 = 0) && decide (I 53 21 = 0) && decide (I 33 9 = 0) && decide (I 53 28 = 0) && decide (I 53 37 = I 33 10) && decide (I 53 38 = I 33 11) && decide (I 53 50 = I 41 0) && decide (I 53 51 = I 41 1) && decide (I 53 52 = I 41 2) && decide (I 53 53 = I 41 5) && decide (I 41 5 = 0) && decide (I 44 12 = 0) && decide (I 44 16 = 0)
def am_chkA (o : Option am_Re) : Bool := match o with
  | some (none, h) => decide (h.1.length = 53)
  | _ => false
def am_chkB (o : Option am_Re) : Bool := match o with
  | some (none, h) => decide (h.1 = am_GS 0) && (am_fR h.2.1 && am_fI h.2.2.1)
  | _ => false
theorem am_fA_ok : am_chkA am_r1 = true := by decide +kernel
theorem am_fB_ok : am_chkB am_r2 = true := by decide +kernel
