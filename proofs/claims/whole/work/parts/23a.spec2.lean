/-! why a change is refused -/
def rfH (ht : Nat → Nat) (o : Option Nat) (v : Int32) : Int32 := match o with
  | none => -1
  | some k => match inR v 100 with
    | none => -2
    | some h => if ht k = h then nI 6 else nI 0
def rfP (pg : Nat → Nat) (o : Option Nat) (v : Nat) : Int32 := match o with
  | none => -1
  | some k => if pg k = v then nI 2 else nI 0
def rfU (o : Option Nat) (v : Int32) : Int32 := match o with
  | none => -1
  | some _ => match inR v 100 with
    | none => -2
    | some h => if h = 0 then -2 else nI 0
def rfM (wr mo : Nat → Nat) (mc : Nat) (o : Option Nat) : Int32 := match o with
  | none => -1
  | some k => if 4 ≤ mc then nI 1 else if 3 ≤ wr k then nI 3 else match fstN (fun j => mo j == k) mc with
    | some _ => nI 5
    | none => nI 0
def rfC (wr mo : Nat → Nat) (mc : Nat) (o : Option Nat) : Int32 := match o with
  | none => -1
  | some k => match fstN (fun j => mo j == k) mc with
    | some _ => nI 5
    | none => if wr k = 0 then nI 4 else nI 0
