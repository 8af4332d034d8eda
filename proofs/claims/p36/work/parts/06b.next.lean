/-! MATHEMATICS: the model's next order -/
theorem nI_sub2 {m : Nat} (h : 2 ≤ m) : nI m - (2 : Int32) = nI (m - 2) := pk_sub h
theorem nI_sub1 {m : Nat} (h : 1 ≤ m) : nI m - (1 : Int32) = nI (m - 1) := pk_sub h
theorem Od.at {o : Nat → Int32} {p : List Nat} (h : Od o p) {i : Nat} (hi : i < p.length) : o i = nI p[i] := h i _ (List.getElem?_eq_getElem hi)
