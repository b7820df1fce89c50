/-- a part of an entry -/
def tupR (x : En) (wh : Nat) : Int32 := if wh < 3 then nI (vat x.1 wh) else if wh = 3 then nI x.2.1 else x.2.2
