/-! a round, as the class does it -/
def dvP (L Lt : List Nat) (num : Nat) (R : Rl) (rdy : Nat) (s : (Nat → Nat) × List En) (p : Nat) : (Nat → Nat) × List En := (dvF L Lt num R rdy (nI p) R.2.1.length 0 s.1 s.2).2
def dvB (L Lt : List Nat) (num : Nat) (R : Rl) (rdy : Nat) (nw : Bool) (v : Nat → Nat) (C : List En) : (Nat → Nat) × List En :=
  if nw then (dvF L Lt num R rdy (-1) R.2.1.length 0 v C).2 else (List.range R.2.1.length).foldl (dvP L Lt num R rdy) (v, C)
theorem range_snoc (n : Nat) : List.range (n + 1) = List.range n ++ [n] := List.range_succ
def rdN (R : Rl) : Nat := (R.1.2.2.2.2 : Int32).toInt.toNat
def rsv (R : Rl) : Prop := R.1.2.2.2.2 = nI (rdN R) ∧ rdN R ≤ 3
/-- the rules of the stratum at hand, one after the other, while it is not too much -/
def nrF (L Lt : List Nat) (S : Nat → Nat) (sa : Nat) (nw : Bool) : List Rl → Nat → (Nat → Nat) × List En → (Nat → Nat) × List En
  | [], _, s => s
  | R :: Q, i, s => if tmc L.length s.2 then s else nrF L Lt S sa nw Q (i + 1) (if S R.1.1.2.1 = sa then dvB L Lt i R (rdN R) nw s.1 s.2 else s)
def clE (rc : Nat) (E C : List En) : List En := C.foldl (fun E e => insE E (e.1, rc, e.2.2)) E
