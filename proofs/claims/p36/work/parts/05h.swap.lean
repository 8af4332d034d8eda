/-! MATHEMATICS, part h: exchanges of lines -/
def sw (i j r : Nat) : Nat := if r = i then j else if r = j then i else r
