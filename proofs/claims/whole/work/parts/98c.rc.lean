/-! The constructors: a machine that can be run. -/
def am_rc (n : Nat) : Nat → am_C
  | 0 => fun _ _ _ => none
  | d + 1 => fun j as h => match am_ml[j]? with
    | some m => if (am_ent as).length ≤ m.2.2.1 then am_run (am_rc n d) j n 0 (am_pad m.2.2.1 (am_ent as)) [] h else none
    | none => none
def am_hA : am_H := ([(9, 0), (11, 0)], fun _ _ => none, fun _ _ => 0, fun _ _ => 0)
