def f_X10_wholeDiagonals (t_z : Nat → Int32) (t_order : Nat → Int32) (t_rowsTaken : Nat → Int32) (t_columnsTaken : Nat → Int32) : Option (Int32 × (Nat → Int32) × (Nat → Int32) × (Nat → Int32)) :=
  (f_X10_all t_z).bind (fun r_1 =>
  (f_X10_all t_z).bind (fun r_3 =>
  (f_X10_sumOfSets t_z t_order t_rowsTaken t_columnsTaken r_1 r_3 (1 : Int32)).bind (fun (r_8, t_order_5, t_rowsTaken_6, t_columnsTaken_7) =>
  some (r_8.toInt32, t_order_5, t_rowsTaken_6, t_columnsTaken_7))))
set_option maxHeartbeats 4000000 in
set_option maxRecDepth 100000 in
theorem k_X10_wholeDiagonals {p : Program} {l : Launch} {e : Env} {s : State} {m : MethodId} {args : Array Value} {below : List Frame} {meth : Method} {c : Code} {Q : State → Prop} {A0 : Nat → Prop} {H0 : Heap} (C : CallFix p m c cX10_wholeDiagonals 1 s args wsX10_wholeDiagonals RX10) (G : GT) (hK : gK G s) (hA : ∀ q : Nat, H0.size ≤ q → A0 q) (q_t q_t_z q_t_old q_t_past q_t_kept q_t_text q_t_order q_t_told q_t_rowsTaken q_t_columnsTaken q_t_ways q_t_scaled q_t_rowFactors q_t_columnFactors q_t_rest q_t_diagonals q_t_weights : Nat) (t_states : Int32) (t_isKept : Int32) (t_length : Int32) (t_spot : Int32) (t_toldRows : Int32) (t_z : Nat → Int32) (t_order : Nat → Int32) (t_rowsTaken : Nat → Int32) (t_columnsTaken : Nat → Int32) (r : Int32) (o_t_order : Nat → Int32) (o_t_rowsTaken : Nat → Int32) (o_t_columnsTaken : Nat → Int32) (h : f_X10_wholeDiagonals t_z t_order t_rowsTaken t_columnsTaken = some (r, o_t_order, o_t_rowsTaken, o_t_columnsTaken)) (KR : ∀ (H : Heap) (locs : List Loc) (ls : Array Slot) (pc : Nat), decode cX10_wholeDiagonals pc = .ok (.ireturn, 1) → va_P G.1 vwCl [(q_t, .inr (9, [.ref q_t_z, .ref q_t_old, .ref q_t_past, .int t_states, .ref q_t_kept, .int t_isKept, .ref q_t_text, .int t_length, .ref q_t_order, .ref q_t_told, .int t_spot, .int t_toldRows, .ref q_t_rowsTaken, .ref q_t_columnsTaken, .ref q_t_ways, .ref q_t_scaled, .ref q_t_rowFactors, .ref q_t_columnFactors, .ref q_t_rest, .ref q_t_diagonals, .ref q_t_weights])), (q_t_z, .inl (G.2 0, 50, .inl t_z)), (q_t_order, .inl (G.2 0, 7, .inl o_t_order)), (q_t_rowsTaken, .inl (G.2 0, 7, .inl o_t_rowsTaken)), (q_t_columnsTaken, .inl (G.2 0, 7, .inl o_t_columnsTaken))] H → va_D A0 [(q_t, .inr (9, [.ref q_t_z, .ref q_t_old, .ref q_t_past, .int t_states, .ref q_t_kept, .int t_isKept, .ref q_t_text, .int t_length, .ref q_t_order, .ref q_t_told, .int t_spot, .int t_toldRows, .ref q_t_rowsTaken, .ref q_t_columnsTaken, .ref q_t_ways, .ref q_t_scaled, .ref q_t_rowFactors, .ref q_t_columnFactors, .ref q_t_rest, .ref q_t_diagonals, .ref q_t_weights])), (q_t_z, .inl (G.2 0, 50, .inl t_z)), (q_t_order, .inl (G.2 0, 7, .inl o_t_order)), (q_t_rowsTaken, .inl (G.2 0, 7, .inl o_t_rowsTaken)), (q_t_columnsTaken, .inl (G.2 0, 7, .inl o_t_columnsTaken))] → va_S A0 H0 H locs → W p l e ({ frames := 3, cells := 0, slots := 0, locals := 77 } : Room) s m args below meth c H locs 0 0 Q (F0 m pc ls [.int r])) : ∀ (H : Heap) (locs : List Loc) (ls : Array Slot), va_P G.1 vwCl [(q_t, .inr (9, [.ref q_t_z, .ref q_t_old, .ref q_t_past, .int t_states, .ref q_t_kept, .int t_isKept, .ref q_t_text, .int t_length, .ref q_t_order, .ref q_t_told, .int t_spot, .int t_toldRows, .ref q_t_rowsTaken, .ref q_t_columnsTaken, .ref q_t_ways, .ref q_t_scaled, .ref q_t_rowFactors, .ref q_t_columnFactors, .ref q_t_rest, .ref q_t_diagonals, .ref q_t_weights])), (q_t_z, .inl (G.2 0, 50, .inl t_z)), (q_t_order, .inl (G.2 0, 7, .inl t_order)), (q_t_rowsTaken, .inl (G.2 0, 7, .inl t_rowsTaken)), (q_t_columnsTaken, .inl (G.2 0, 7, .inl t_columnsTaken))] H → va_D A0 [(q_t, .inr (9, [.ref q_t_z, .ref q_t_old, .ref q_t_past, .int t_states, .ref q_t_kept, .int t_isKept, .ref q_t_text, .int t_length, .ref q_t_order, .ref q_t_told, .int t_spot, .int t_toldRows, .ref q_t_rowsTaken, .ref q_t_columnsTaken, .ref q_t_ways, .ref q_t_scaled, .ref q_t_rowFactors, .ref q_t_columnFactors, .ref q_t_rest, .ref q_t_diagonals, .ref q_t_weights])), (q_t_z, .inl (G.2 0, 50, .inl t_z)), (q_t_order, .inl (G.2 0, 7, .inl t_order)), (q_t_rowsTaken, .inl (G.2 0, 7, .inl t_rowsTaken)), (q_t_columnsTaken, .inl (G.2 0, 7, .inl t_columnsTaken))] → va_S A0 H0 H locs → lv_has ls 1 [(0, .ref q_t)] → W p l e ({ frames := 3, cells := 0, slots := 0, locals := 77 } : Room) s m args below meth c H locs 0 0 Q (F0 m 0 ls []) := by
  obtain ⟨hx, hb, hml, hown, hts⟩ := C
  intro H locs ls hP hD hS hl
  rw [f_X10_wholeDiagonals] at h
  refine lv_aload_n hx hb dX10_wholeDiagonals_0 rfl (lv_at hl 0 rfl) ?_
  refine lv_aload_n hx hb dX10_wholeDiagonals_1 rfl (lv_at hl 0 rfl) ?_
  obtain ⟨r_1, hf_2, h⟩ := bd_ok h
  refine ck_Vi (rest := [.ref q_t]) (wn := [(q_t, .inr (9, [.ref q_t_z, .ref q_t_old, .ref q_t_past, .int t_states, .ref q_t_kept, .int t_isKept, .ref q_t_text, .int t_length, .ref q_t_order, .ref q_t_told, .int t_spot, .int t_toldRows, .ref q_t_rowsTaken, .ref q_t_columnsTaken, .ref q_t_ways, .ref q_t_scaled, .ref q_t_rowFactors, .ref q_t_columnFactors, .ref q_t_rest, .ref q_t_diagonals, .ref q_t_weights])), (q_t_z, .inl (G.2 0, 50, .inl t_z)), (q_t_order, .inl (G.2 0, 7, .inl t_order)), (q_t_rowsTaken, .inl (G.2 0, 7, .inl t_rowsTaken)), (q_t_columnsTaken, .inl (G.2 0, 7, .inl t_columnsTaken))]) ⟨hx, hb, hml, hown, hts⟩ hK hP hD hS hA [0, 1] [2, 3, 4] [3, 4, 0, 1, 2] (c_X10_all l G q_t q_t_z q_t_old q_t_past q_t_kept q_t_text q_t_order q_t_told q_t_rowsTaken q_t_columnsTaken q_t_ways q_t_scaled q_t_rowFactors q_t_columnFactors q_t_rest q_t_diagonals q_t_weights _ t_states t_isKept t_length t_spot t_toldRows t_z _ hf_2) (cwV 0 hts gX10_wholeDiagonals_X10_all rfl rfl rfl (by decide +kernel) ⟨Nat.le_of_ble_eq_true rfl, Nat.le_of_ble_eq_true rfl⟩) rfl rfl rfl rfl rfl rfl (by decide) rfl rfl rfl hl.1 rfl (Nat.le_of_ble_eq_true rfl) dX10_wholeDiagonals_2 ⟨Nat.zero_le _, Nat.zero_le _⟩ (fun H locs hP hD hS => ?_)
  refine lv_aload_n hx hb dX10_wholeDiagonals_5 rfl (lv_at hl 0 rfl) ?_
  obtain ⟨r_3, hf_4, h⟩ := bd_ok h
  refine ck_Vi (rest := [.int r_1, .ref q_t]) (wn := [(q_t, .inr (9, [.ref q_t_z, .ref q_t_old, .ref q_t_past, .int t_states, .ref q_t_kept, .int t_isKept, .ref q_t_text, .int t_length, .ref q_t_order, .ref q_t_told, .int t_spot, .int t_toldRows, .ref q_t_rowsTaken, .ref q_t_columnsTaken, .ref q_t_ways, .ref q_t_scaled, .ref q_t_rowFactors, .ref q_t_columnFactors, .ref q_t_rest, .ref q_t_diagonals, .ref q_t_weights])), (q_t_z, .inl (G.2 0, 50, .inl t_z)), (q_t_order, .inl (G.2 0, 7, .inl t_order)), (q_t_rowsTaken, .inl (G.2 0, 7, .inl t_rowsTaken)), (q_t_columnsTaken, .inl (G.2 0, 7, .inl t_columnsTaken))]) ⟨hx, hb, hml, hown, hts⟩ hK hP hD hS hA [0, 1] [2, 3, 4] [3, 4, 0, 1, 2] (c_X10_all l G q_t q_t_z q_t_old q_t_past q_t_kept q_t_text q_t_order q_t_told q_t_rowsTaken q_t_columnsTaken q_t_ways q_t_scaled q_t_rowFactors q_t_columnFactors q_t_rest q_t_diagonals q_t_weights _ t_states t_isKept t_length t_spot t_toldRows t_z _ hf_4) (cwV 0 hts gX10_wholeDiagonals_X10_all rfl rfl rfl (by decide +kernel) ⟨Nat.le_of_ble_eq_true rfl, Nat.le_of_ble_eq_true rfl⟩) rfl rfl rfl rfl rfl rfl (by decide) rfl rfl rfl hl.1 rfl (Nat.le_of_ble_eq_true rfl) dX10_wholeDiagonals_6 ⟨Nat.zero_le _, Nat.zero_le _⟩ (fun H locs hP hD hS => ?_)
  refine lv_iconst (v := 1) hx hb dX10_wholeDiagonals_9 (by decide) ?_
  obtain ⟨⟨r_8, t_order_5, t_rowsTaken_6, t_columnsTaken_7⟩, hf_9, h⟩ := bd_ok h
  refine ck_Vl (rest := []) (wn := [(q_t, .inr (9, [.ref q_t_z, .ref q_t_old, .ref q_t_past, .int t_states, .ref q_t_kept, .int t_isKept, .ref q_t_text, .int t_length, .ref q_t_order, .ref q_t_told, .int t_spot, .int t_toldRows, .ref q_t_rowsTaken, .ref q_t_columnsTaken, .ref q_t_ways, .ref q_t_scaled, .ref q_t_rowFactors, .ref q_t_columnFactors, .ref q_t_rest, .ref q_t_diagonals, .ref q_t_weights])), (q_t_z, .inl (G.2 0, 50, .inl t_z)), (q_t_order, .inl (G.2 0, 7, .inl t_order_5)), (q_t_rowsTaken, .inl (G.2 0, 7, .inl t_rowsTaken_6)), (q_t_columnsTaken, .inl (G.2 0, 7, .inl t_columnsTaken_7))]) ⟨hx, hb, hml, hown, hts⟩ hK hP hD hS hA [0, 1, 2, 3, 4] [] [0, 1, 2, 3, 4] (c_X10_sumOfSets l G q_t q_t_z q_t_old q_t_past q_t_kept q_t_text q_t_order q_t_told q_t_rowsTaken q_t_columnsTaken q_t_ways q_t_scaled q_t_rowFactors q_t_columnFactors q_t_rest q_t_diagonals q_t_weights _ t_states t_isKept t_length t_spot t_toldRows t_z t_order t_rowsTaken t_columnsTaken r_1 r_3 (1 : Int32) _ _ _ _ hf_9) (cwV 3 hts gX10_wholeDiagonals_X10_sumOfSets rfl rfl rfl (by decide +kernel) ⟨Nat.le_of_ble_eq_true rfl, Nat.le_of_ble_eq_true rfl⟩) rfl rfl rfl rfl rfl rfl (by decide) rfl rfl rfl hl.1 rfl (Nat.le_of_ble_eq_true rfl) dX10_wholeDiagonals_10 ⟨Nat.zero_le _, Nat.zero_le _⟩ (fun H locs hP hD hS => ?_)
  refine lv_l2i hx hb dX10_wholeDiagonals_13 rfl ?_
  obtain ⟨rfl, rfl, rfl, rfl⟩ := sm4 h
  exact KR H locs ls 14 dX10_wholeDiagonals_14 hP hD hS
set_option maxHeartbeats 4000000 in
set_option maxRecDepth 100000 in
theorem c_X10_wholeDiagonals (l : Launch) (G : GT) (q_t q_t_z q_t_old q_t_past q_t_kept q_t_text q_t_order q_t_told q_t_rowsTaken q_t_columnsTaken q_t_ways q_t_scaled q_t_rowFactors q_t_columnFactors q_t_rest q_t_diagonals q_t_weights : Nat) (sz : Nat) (t_states : Int32) (t_isKept : Int32) (t_length : Int32) (t_spot : Int32) (t_toldRows : Int32) (t_z : Nat → Int32) (t_order : Nat → Int32) (t_rowsTaken : Nat → Int32) (t_columnsTaken : Nat → Int32) (r : Int32) (o_t_order : Nat → Int32) (o_t_rowsTaken : Nat → Int32) (o_t_columnsTaken : Nat → Int32) (h : f_X10_wholeDiagonals t_z t_order t_rowsTaken t_columnsTaken = some (r, o_t_order, o_t_rowsTaken, o_t_columnsTaken)) : Met l yX10_wholeDiagonals wsX10_wholeDiagonals ({ frames := 3, cells := 0, slots := 0, locals := 77 } : Room) (va_Pc [.ref q_t] (pcW G [(q_t, .inr (9, [.ref q_t_z, .ref q_t_old, .ref q_t_past, .int t_states, .ref q_t_kept, .int t_isKept, .ref q_t_text, .int t_length, .ref q_t_order, .ref q_t_told, .int t_spot, .int t_toldRows, .ref q_t_rowsTaken, .ref q_t_columnsTaken, .ref q_t_ways, .ref q_t_scaled, .ref q_t_rowFactors, .ref q_t_columnFactors, .ref q_t_rest, .ref q_t_diagonals, .ref q_t_weights])), (q_t_z, .inl (G.2 0, 50, .inl t_z)), (q_t_order, .inl (G.2 0, 7, .inl t_order)), (q_t_rowsTaken, .inl (G.2 0, 7, .inl t_rowsTaken)), (q_t_columnsTaken, .inl (G.2 0, 7, .inl t_columnsTaken))] sz)) (va_Qi (fun r9 (_ : Unit) => r9 = r) (fun _ t => atW G (va_A [(q_t, .inr (9, [.ref q_t_z, .ref q_t_old, .ref q_t_past, .int t_states, .ref q_t_kept, .int t_isKept, .ref q_t_text, .int t_length, .ref q_t_order, .ref q_t_told, .int t_spot, .int t_toldRows, .ref q_t_rowsTaken, .ref q_t_columnsTaken, .ref q_t_ways, .ref q_t_scaled, .ref q_t_rowFactors, .ref q_t_columnFactors, .ref q_t_rest, .ref q_t_diagonals, .ref q_t_weights])), (q_t_z, .inl (G.2 0, 50, .inl t_z)), (q_t_order, .inl (G.2 0, 7, .inl t_order)), (q_t_rowsTaken, .inl (G.2 0, 7, .inl t_rowsTaken)), (q_t_columnsTaken, .inl (G.2 0, 7, .inl t_columnsTaken))] sz) [(q_t, .inr (9, [.ref q_t_z, .ref q_t_old, .ref q_t_past, .int t_states, .ref q_t_kept, .int t_isKept, .ref q_t_text, .int t_length, .ref q_t_order, .ref q_t_told, .int t_spot, .int t_toldRows, .ref q_t_rowsTaken, .ref q_t_columnsTaken, .ref q_t_ways, .ref q_t_scaled, .ref q_t_rowFactors, .ref q_t_columnFactors, .ref q_t_rest, .ref q_t_diagonals, .ref q_t_weights])), (q_t_z, .inl (G.2 0, 50, .inl t_z)), (q_t_order, .inl (G.2 0, 7, .inl o_t_order)), (q_t_rowsTaken, .inl (G.2 0, 7, .inl o_t_rowsTaken)), (q_t_columnsTaken, .inl (G.2 0, 7, .inl o_t_columnsTaken))] t) (va_A [(q_t, .inr (9, [.ref q_t_z, .ref q_t_old, .ref q_t_past, .int t_states, .ref q_t_kept, .int t_isKept, .ref q_t_text, .int t_length, .ref q_t_order, .ref q_t_told, .int t_spot, .int t_toldRows, .ref q_t_rowsTaken, .ref q_t_columnsTaken, .ref q_t_ways, .ref q_t_scaled, .ref q_t_rowFactors, .ref q_t_columnFactors, .ref q_t_rest, .ref q_t_diagonals, .ref q_t_weights])), (q_t_z, .inl (G.2 0, 50, .inl t_z)), (q_t_order, .inl (G.2 0, 7, .inl t_order)), (q_t_rowsTaken, .inl (G.2 0, 7, .inl t_rowsTaken)), (q_t_columnsTaken, .inl (G.2 0, 7, .inl t_columnsTaken))] sz)) 0 0 (va_A [(q_t, .inr (9, [.ref q_t_z, .ref q_t_old, .ref q_t_past, .int t_states, .ref q_t_kept, .int t_isKept, .ref q_t_text, .int t_length, .ref q_t_order, .ref q_t_told, .int t_spot, .int t_toldRows, .ref q_t_rowsTaken, .ref q_t_columnsTaken, .ref q_t_ways, .ref q_t_scaled, .ref q_t_rowFactors, .ref q_t_columnFactors, .ref q_t_rest, .ref q_t_diagonals, .ref q_t_weights])), (q_t_z, .inl (G.2 0, 50, .inl t_z)), (q_t_order, .inl (G.2 0, 7, .inl t_order)), (q_t_rowsTaken, .inl (G.2 0, 7, .inl t_rowsTaken)), (q_t_columnsTaken, .inl (G.2 0, 7, .inl t_columnsTaken))] sz) := by
  refine Met.ofW (cc := cX10_wholeDiagonals) (maxL := 1) (ret := (some .int)) (by decide) rfl ?_
  intro p e s m args below meth c s₁ B hml hv
  obtain ⟨rfl, hsz, hP, hK, hD0⟩ := hv
  subst hsz
  have hD := hD0.self (sz := s.heap.size)
  generalize hAe : va_A [(q_t, .inr (9, [.ref q_t_z, .ref q_t_old, .ref q_t_past, .int t_states, .ref q_t_kept, .int t_isKept, .ref q_t_text, .int t_length, .ref q_t_order, .ref q_t_told, .int t_spot, .int t_toldRows, .ref q_t_rowsTaken, .ref q_t_columnsTaken, .ref q_t_ways, .ref q_t_scaled, .ref q_t_rowFactors, .ref q_t_columnFactors, .ref q_t_rest, .ref q_t_diagonals, .ref q_t_weights])), (q_t_z, .inl (G.2 0, 50, .inl t_z)), (q_t_order, .inl (G.2 0, 7, .inl t_order)), (q_t_rowsTaken, .inl (G.2 0, 7, .inl t_rowsTaken)), (q_t_columnsTaken, .inl (G.2 0, 7, .inl t_columnsTaken))] s.heap.size = A at hD ⊢
  have hA : ∀ q : Nat, s.heap.size ≤ q → A q := fun q h => by rw [← hAe]; exact Or.inr h
  have hl := lv_entry ([.ref q_t]) (n := 1) (Nat.le_of_ble_eq_true rfl)
  rw [lg_entry_eq]
  refine k_X10_wholeDiagonals ⟨B.exec, B.bytes, hml, findClass_of_methodNamed B.named, atoms_spec (ws := wsX10_wholeDiagonals) B.pre⟩ G hK hA q_t q_t_z q_t_old q_t_past q_t_kept q_t_text q_t_order q_t_told q_t_rowsTaken q_t_columnsTaken q_t_ways q_t_scaled q_t_rowFactors q_t_columnFactors q_t_rest q_t_diagonals q_t_weights _ _ _ _ _ _ _ _ _ _ _ _ _ h ?_ _ _ _ hP hD va_S.rf hl
  intro H locs ls pc hd hP hD hS
  exact W.iret B.exec B.bytes B.returns (fun t ht hW => ⟨⟨r, (), rfl, rfl, by rw [ht]; exact hP, hD⟩, hS.F ht⟩) hS.2.2 hd B.notSynchronized
set_option maxRecDepth 20000 in
theorem wd_X10_isWhole__a1_t_z_1 : Cond.fieldLink RX10 7 "PermanentDeskModel" "z" "[I" ∈ wsX10_isWhole := List.mem_of_getElem? (i := 1) (by decide +kernel)
set_option maxRecDepth 20000 in
theorem wi_X10_isWhole__a1_t_z_X10 : ∀ w ∈ u_ws RX10 TX10 21, w ∈ wsX10_isWhole := by decide +kernel
set_option maxRecDepth 20000 in
theorem wd_X10_isWhole__a1_t_z_2 : Cond.fieldLink RX10 25 "PermanentDeskModel" "order" "[I" ∈ wsX10_isWhole := List.mem_of_getElem? (i := 2) (by decide +kernel)
def f_X10_isWhole__a1_t_z_L1 (t_z : Nat → Int32) (t_order : Nat → Int32) : (Int32 × Int32) → Option ((Int32 × Int32) ⊕ Int32)
  | (x2, x3) =>
    gd (okI (49 : Int32) 50) (
    if (t_z (49 : Int32).toNatClampNeg) ≤ x3 then
      some (.inr x2)
    else
      if x2 = 0 then
        pl ((x3 + (1 : Int32)) : Int32) (fun x3_4 =>
        some (.inl ((0 : Int32), x3_4)))
      else
        gd (okI x3 7) (
        gd (okI (((7 : Int32) * x3) + (t_order x3.toNatClampNeg)) 50) (
        if (t_z (((7 : Int32) * x3) + (t_order x3.toNatClampNeg)).toNatClampNeg) = 0 then
          pl ((x3 + (1 : Int32)) : Int32) (fun x3_8 =>
          some (.inl ((0 : Int32), x3_8)))
        else
          pl ((x3 + (1 : Int32)) : Int32) (fun x3_9 =>
          some (.inl ((1 : Int32), x3_9))))))
def f_X10_isWhole__a1_t_z (t_z : Nat → Int32) (t_order : Nat → Int32) : Option Int32 :=
  (lpN (f_X10_isWhole__a1_t_z_L1 t_z t_order) FU ((1 : Int32), (0 : Int32))).bind (fun x2_10 =>
  gd (x2_10 = 0 ∨ x2_10 = 1) (
  some x2_10))
set_option maxHeartbeats 4000000 in
set_option maxRecDepth 100000 in
theorem l_X10_isWhole__a1_t_z_1 {p : Program} {l : Launch} {e : Env} {s : State} {m : MethodId} {args : Array Value} {below : List Frame} {meth : Method} {c : Code} {Q : State → Prop} {A0 : Nat → Prop} {H0 : Heap} (C : CallFix p m c cX10_isWhole 4 s args wsX10_isWhole RX10) (G : GT) (hK : gK G s) (hA : ∀ q : Nat, H0.size ≤ q → A0 q) (q_t q_t_z q_t_old q_t_past q_t_kept q_t_text q_t_order q_t_told q_t_rowsTaken q_t_columnsTaken q_t_ways q_t_scaled q_t_rowFactors q_t_columnFactors q_t_rest q_t_diagonals q_t_weights : Nat) (t_states : Int32) (t_isKept : Int32) (t_length : Int32) (t_spot : Int32) (t_toldRows : Int32) (t_z : Nat → Int32) (t_order : Nat → Int32) (E_x2 : Int32) (K : ∀ (H : Heap) (locs : List Loc) (ls : Array Slot), va_P G.1 vwCl [(q_t, .inr (9, [.ref q_t_z, .ref q_t_old, .ref q_t_past, .int t_states, .ref q_t_kept, .int t_isKept, .ref q_t_text, .int t_length, .ref q_t_order, .ref q_t_told, .int t_spot, .int t_toldRows, .ref q_t_rowsTaken, .ref q_t_columnsTaken, .ref q_t_ways, .ref q_t_scaled, .ref q_t_rowFactors, .ref q_t_columnFactors, .ref q_t_rest, .ref q_t_diagonals, .ref q_t_weights])), (q_t_z, .inl (G.2 0, 50, .inl t_z)), (q_t_order, .inl (G.2 0, 7, .inl t_order))] H → va_D A0 [(q_t, .inr (9, [.ref q_t_z, .ref q_t_old, .ref q_t_past, .int t_states, .ref q_t_kept, .int t_isKept, .ref q_t_text, .int t_length, .ref q_t_order, .ref q_t_told, .int t_spot, .int t_toldRows, .ref q_t_rowsTaken, .ref q_t_columnsTaken, .ref q_t_ways, .ref q_t_scaled, .ref q_t_rowFactors, .ref q_t_columnFactors, .ref q_t_rest, .ref q_t_diagonals, .ref q_t_weights])), (q_t_z, .inl (G.2 0, 50, .inl t_z)), (q_t_order, .inl (G.2 0, 7, .inl t_order))] → va_S A0 H0 H locs → lv_has ls 4 [(2, .int E_x2)] → W p l e ({ frames := 0, cells := 0, slots := 0, locals := 0 } : Room) s m args below meth c H locs 0 0 Q (F0 m 47 ls [])) : ∀ (n : Nat) (x2 : Int32) (x3 : Int32), lpN (f_X10_isWhole__a1_t_z_L1 t_z t_order) n (x2, x3) = some E_x2 → ∀ (H : Heap) (locs : List Loc) (ls : Array Slot), va_P G.1 vwCl [(q_t, .inr (9, [.ref q_t_z, .ref q_t_old, .ref q_t_past, .int t_states, .ref q_t_kept, .int t_isKept, .ref q_t_text, .int t_length, .ref q_t_order, .ref q_t_told, .int t_spot, .int t_toldRows, .ref q_t_rowsTaken, .ref q_t_columnsTaken, .ref q_t_ways, .ref q_t_scaled, .ref q_t_rowFactors, .ref q_t_columnFactors, .ref q_t_rest, .ref q_t_diagonals, .ref q_t_weights])), (q_t_z, .inl (G.2 0, 50, .inl t_z)), (q_t_order, .inl (G.2 0, 7, .inl t_order))] H → va_D A0 [(q_t, .inr (9, [.ref q_t_z, .ref q_t_old, .ref q_t_past, .int t_states, .ref q_t_kept, .int t_isKept, .ref q_t_text, .int t_length, .ref q_t_order, .ref q_t_told, .int t_spot, .int t_toldRows, .ref q_t_rowsTaken, .ref q_t_columnsTaken, .ref q_t_ways, .ref q_t_scaled, .ref q_t_rowFactors, .ref q_t_columnFactors, .ref q_t_rest, .ref q_t_diagonals, .ref q_t_weights])), (q_t_z, .inl (G.2 0, 50, .inl t_z)), (q_t_order, .inl (G.2 0, 7, .inl t_order))] → va_S A0 H0 H locs → lv_has ls 4 [(0, .ref q_t), (1, .ref q_t_z), (2, .int x2), (3, .int x3)] → W p l e ({ frames := 0, cells := 0, slots := 0, locals := 0 } : Room) s m args below meth c H locs 0 0 Q (F0 m 4 ls []) := by
  obtain ⟨hx, hb, hml, hown, hts⟩ := C
  intro n
  induction n with
  | zero => intro x2 x3 h; exact absurd h (fun h => lp_0 h)
  | succ n ih =>
    intro x2 x3 h H locs ls hP hD hS hl
    obtain ⟨y, h, hk⟩ := lp_s h
    rw [f_X10_isWhole__a1_t_z_L1] at h
    refine lv_iload_n hx hb dX10_isWhole_4 rfl (lv_at hl 3 rfl) ?_
    refine lv_aload_n hx hb dX10_isWhole_5 rfl (lv_at hl 0 rfl) ?_
    refine va_get (D := G.1) (ci := 9) (v := .ref q_t_z) (C := RX10) (T := TX10) (N := 21) hx hb hts wi_X10_isWhole__a1_t_z_X10 hown hK hP 0 rfl rfl 0 (by decide) (hts _ wd_X10_isWhole__a1_t_z_1) (fun _ h9 => h9) rfl dX10_isWhole_6 ?_
    refine lv_bipush (v := 49) hx hb dX10_isWhole_9 (by decide) ?_
    obtain ⟨g_1, h⟩ := gd_ok h
    refine va_iald (D := G.1) hx hb hK hP 1 0 rfl rfl g_1 dX10_isWhole_11 ?_
    refine lv_icmp_ge (tgt := 47) hx hb dX10_isWhole_12 (by decide) (fun c_2 => ?_) (fun c_2 => ?_)
    · replace h := it_t h c_2
      obtain rfl := sm1 h
      obtain rfl := sm1 hk
      exact K H locs ls hP hD hS (lv_sub hl [2] rfl)
    · replace h := it_f h c_2
      refine lv_iload_n hx hb dX10_isWhole_15 rfl (lv_at hl 2 rfl) ?_
      refine lv_if_eq (tgt := 39) hx hb dX10_isWhole_16 (by decide) (fun c_3 => ?_) (fun c_3 => ?_)
      · replace h := it_t h c_3
        refine lv_iconst (v := 0) hx hb dX10_isWhole_39 (by decide) ?_
        refine lv_istore_n (lv' := [(2, .int (0 : Int32)), (0, .ref q_t), (1, .ref q_t_z), (3, .int x3)]) hx hb dX10_isWhole_40 rfl hl (by decide) rfl (fun ls hl => ?_)
        obtain ⟨x3_4, ex3_4, h⟩ := pl_ok h
        refine lv_iinc (v := x3_4) (lv' := [(3, .int x3_4), (2, .int (0 : Int32)), (0, .ref q_t), (1, .ref q_t_z)]) hx hb dX10_isWhole_41 hl (k := 3) rfl (by rw [ex3_4]; rfl) (by decide) rfl (fun ls hl => ?_)
        refine lv_goto (tgt := 4) hx hb dX10_isWhole_44 (by decide) ?_
        obtain rfl := sm1 h
        exact ih (0 : Int32) x3_4 hk H locs ls hP hD hS (lv_sub hl [2, 3, 1, 0] rfl)
      · replace h := it_f h c_3
        refine lv_aload_n hx hb dX10_isWhole_19 rfl (lv_at hl 1 rfl) ?_
        refine lv_bipush (v := 7) hx hb dX10_isWhole_20 (by decide) ?_
        refine lv_iload_n hx hb dX10_isWhole_22 rfl (lv_at hl 3 rfl) ?_
        refine lv_imul hx hb dX10_isWhole_23 ?_
        refine lv_aload_n hx hb dX10_isWhole_24 rfl (lv_at hl 0 rfl) ?_
        refine va_get (D := G.1) (ci := 9) (v := .ref q_t_order) (C := RX10) (T := TX10) (N := 21) hx hb hts wi_X10_isWhole__a1_t_z_X10 hown hK hP 0 rfl rfl 8 (by decide) (hts _ wd_X10_isWhole__a1_t_z_2) (fun _ h9 => h9) rfl dX10_isWhole_25 ?_
        refine lv_iload_n hx hb dX10_isWhole_28 rfl (lv_at hl 3 rfl) ?_
        obtain ⟨g_5, h⟩ := gd_ok h
        refine va_iald (D := G.1) hx hb hK hP 2 0 rfl rfl g_5 dX10_isWhole_29 ?_
        refine lv_iadd hx hb dX10_isWhole_30 ?_
        obtain ⟨g_6, h⟩ := gd_ok h
        refine va_iald (D := G.1) hx hb hK hP 1 0 rfl rfl g_6 dX10_isWhole_31 ?_
        refine lv_if_eq (tgt := 39) hx hb dX10_isWhole_32 (by decide) (fun c_7 => ?_) (fun c_7 => ?_)
        · replace h := it_t h c_7
          refine lv_iconst (v := 0) hx hb dX10_isWhole_39 (by decide) ?_
          refine lv_istore_n (lv' := [(2, .int (0 : Int32)), (0, .ref q_t), (1, .ref q_t_z), (3, .int x3)]) hx hb dX10_isWhole_40 rfl hl (by decide) rfl (fun ls hl => ?_)
          obtain ⟨x3_8, ex3_8, h⟩ := pl_ok h
          refine lv_iinc (v := x3_8) (lv' := [(3, .int x3_8), (2, .int (0 : Int32)), (0, .ref q_t), (1, .ref q_t_z)]) hx hb dX10_isWhole_41 hl (k := 3) rfl (by rw [ex3_8]; rfl) (by decide) rfl (fun ls hl => ?_)
          refine lv_goto (tgt := 4) hx hb dX10_isWhole_44 (by decide) ?_
          obtain rfl := sm1 h
          exact ih (0 : Int32) x3_8 hk H locs ls hP hD hS (lv_sub hl [2, 3, 1, 0] rfl)
        · replace h := it_f h c_7
          refine lv_iconst (v := 1) hx hb dX10_isWhole_35 (by decide) ?_
          refine lv_goto (tgt := 40) hx hb dX10_isWhole_36 (by decide) ?_
          refine lv_istore_n (lv' := [(2, .int (1 : Int32)), (0, .ref q_t), (1, .ref q_t_z), (3, .int x3)]) hx hb dX10_isWhole_40 rfl hl (by decide) rfl (fun ls hl => ?_)
          obtain ⟨x3_9, ex3_9, h⟩ := pl_ok h
          refine lv_iinc (v := x3_9) (lv' := [(3, .int x3_9), (2, .int (1 : Int32)), (0, .ref q_t), (1, .ref q_t_z)]) hx hb dX10_isWhole_41 hl (k := 3) rfl (by rw [ex3_9]; rfl) (by decide) rfl (fun ls hl => ?_)
          refine lv_goto (tgt := 4) hx hb dX10_isWhole_44 (by decide) ?_
          obtain rfl := sm1 h
          exact ih (1 : Int32) x3_9 hk H locs ls hP hD hS (lv_sub hl [2, 3, 1, 0] rfl)
set_option maxHeartbeats 4000000 in
set_option maxRecDepth 100000 in
theorem k_X10_isWhole__a1_t_z {p : Program} {l : Launch} {e : Env} {s : State} {m : MethodId} {args : Array Value} {below : List Frame} {meth : Method} {c : Code} {Q : State → Prop} {A0 : Nat → Prop} {H0 : Heap} (C : CallFix p m c cX10_isWhole 4 s args wsX10_isWhole RX10) (G : GT) (hK : gK G s) (hA : ∀ q : Nat, H0.size ≤ q → A0 q) (q_t q_t_z q_t_old q_t_past q_t_kept q_t_text q_t_order q_t_told q_t_rowsTaken q_t_columnsTaken q_t_ways q_t_scaled q_t_rowFactors q_t_columnFactors q_t_rest q_t_diagonals q_t_weights : Nat) (t_states : Int32) (t_isKept : Int32) (t_length : Int32) (t_spot : Int32) (t_toldRows : Int32) (t_z : Nat → Int32) (t_order : Nat → Int32) (r : Int32) (h : f_X10_isWhole__a1_t_z t_z t_order = some r) (KR : ∀ (H : Heap) (locs : List Loc) (ls : Array Slot) (pc : Nat), decode cX10_isWhole pc = .ok (.ireturn, 1) → (r = 0 ∨ r = 1) → va_P G.1 vwCl [(q_t, .inr (9, [.ref q_t_z, .ref q_t_old, .ref q_t_past, .int t_states, .ref q_t_kept, .int t_isKept, .ref q_t_text, .int t_length, .ref q_t_order, .ref q_t_told, .int t_spot, .int t_toldRows, .ref q_t_rowsTaken, .ref q_t_columnsTaken, .ref q_t_ways, .ref q_t_scaled, .ref q_t_rowFactors, .ref q_t_columnFactors, .ref q_t_rest, .ref q_t_diagonals, .ref q_t_weights])), (q_t_z, .inl (G.2 0, 50, .inl t_z)), (q_t_order, .inl (G.2 0, 7, .inl t_order))] H → va_D A0 [(q_t, .inr (9, [.ref q_t_z, .ref q_t_old, .ref q_t_past, .int t_states, .ref q_t_kept, .int t_isKept, .ref q_t_text, .int t_length, .ref q_t_order, .ref q_t_told, .int t_spot, .int t_toldRows, .ref q_t_rowsTaken, .ref q_t_columnsTaken, .ref q_t_ways, .ref q_t_scaled, .ref q_t_rowFactors, .ref q_t_columnFactors, .ref q_t_rest, .ref q_t_diagonals, .ref q_t_weights])), (q_t_z, .inl (G.2 0, 50, .inl t_z)), (q_t_order, .inl (G.2 0, 7, .inl t_order))] → va_S A0 H0 H locs → W p l e ({ frames := 0, cells := 0, slots := 0, locals := 0 } : Room) s m args below meth c H locs 0 0 Q (F0 m pc ls [.int r])) : ∀ (H : Heap) (locs : List Loc) (ls : Array Slot), va_P G.1 vwCl [(q_t, .inr (9, [.ref q_t_z, .ref q_t_old, .ref q_t_past, .int t_states, .ref q_t_kept, .int t_isKept, .ref q_t_text, .int t_length, .ref q_t_order, .ref q_t_told, .int t_spot, .int t_toldRows, .ref q_t_rowsTaken, .ref q_t_columnsTaken, .ref q_t_ways, .ref q_t_scaled, .ref q_t_rowFactors, .ref q_t_columnFactors, .ref q_t_rest, .ref q_t_diagonals, .ref q_t_weights])), (q_t_z, .inl (G.2 0, 50, .inl t_z)), (q_t_order, .inl (G.2 0, 7, .inl t_order))] H → va_D A0 [(q_t, .inr (9, [.ref q_t_z, .ref q_t_old, .ref q_t_past, .int t_states, .ref q_t_kept, .int t_isKept, .ref q_t_text, .int t_length, .ref q_t_order, .ref q_t_told, .int t_spot, .int t_toldRows, .ref q_t_rowsTaken, .ref q_t_columnsTaken, .ref q_t_ways, .ref q_t_scaled, .ref q_t_rowFactors, .ref q_t_columnFactors, .ref q_t_rest, .ref q_t_diagonals, .ref q_t_weights])), (q_t_z, .inl (G.2 0, 50, .inl t_z)), (q_t_order, .inl (G.2 0, 7, .inl t_order))] → va_S A0 H0 H locs → lv_has ls 4 [(0, .ref q_t), (1, .ref q_t_z)] → W p l e ({ frames := 0, cells := 0, slots := 0, locals := 0 } : Room) s m args below meth c H locs 0 0 Q (F0 m 0 ls []) := by
  obtain ⟨hx, hb, hml, hown, hts⟩ := C
  intro H locs ls hP hD hS hl
  rw [f_X10_isWhole__a1_t_z] at h
  refine lv_iconst (v := 1) hx hb dX10_isWhole_0 (by decide) ?_
  refine lv_istore_n (lv' := [(2, .int (1 : Int32)), (0, .ref q_t), (1, .ref q_t_z)]) hx hb dX10_isWhole_1 rfl hl (by decide) rfl (fun ls hl => ?_)
  refine lv_iconst (v := 0) hx hb dX10_isWhole_2 (by decide) ?_
  refine lv_istore_n (lv' := [(3, .int (0 : Int32)), (2, .int (1 : Int32)), (0, .ref q_t), (1, .ref q_t_z)]) hx hb dX10_isWhole_3 rfl hl (by decide) rfl (fun ls hl => ?_)
  obtain ⟨x2_10, hz_12, h⟩ := bd_ok h
  refine l_X10_isWhole__a1_t_z_1 ⟨hx, hb, hml, hown, hts⟩ G hK hA q_t q_t_z q_t_old q_t_past q_t_kept q_t_text q_t_order q_t_told q_t_rowsTaken q_t_columnsTaken q_t_ways q_t_scaled q_t_rowFactors q_t_columnFactors q_t_rest q_t_diagonals q_t_weights t_states t_isKept t_length t_spot t_toldRows t_z t_order x2_10 ?_ FU (1 : Int32) (0 : Int32) hz_12 H locs ls hP hD hS (lv_sub hl [2, 3, 1, 0] rfl)
  intro H locs ls hP hD hS hl
  refine lv_iload_n hx hb dX10_isWhole_47 rfl (lv_at hl 0 rfl) ?_
  obtain ⟨g_13, h⟩ := gd_ok h
  obtain rfl := sm1 h
  exact KR H locs ls 48 dX10_isWhole_48 g_13 hP hD hS
set_option maxHeartbeats 4000000 in
set_option maxRecDepth 100000 in
theorem c_X10_isWhole__a1_t_z (l : Launch) (G : GT) (q_t q_t_z q_t_old q_t_past q_t_kept q_t_text q_t_order q_t_told q_t_rowsTaken q_t_columnsTaken q_t_ways q_t_scaled q_t_rowFactors q_t_columnFactors q_t_rest q_t_diagonals q_t_weights : Nat) (sz : Nat) (t_states : Int32) (t_isKept : Int32) (t_length : Int32) (t_spot : Int32) (t_toldRows : Int32) (t_z : Nat → Int32) (t_order : Nat → Int32) (r : Int32) (h : f_X10_isWhole__a1_t_z t_z t_order = some r) : Met l yX10_isWhole wsX10_isWhole ({ frames := 0, cells := 0, slots := 0, locals := 0 } : Room) (va_Pc [.ref q_t, .ref q_t_z] (pcW G [(q_t, .inr (9, [.ref q_t_z, .ref q_t_old, .ref q_t_past, .int t_states, .ref q_t_kept, .int t_isKept, .ref q_t_text, .int t_length, .ref q_t_order, .ref q_t_told, .int t_spot, .int t_toldRows, .ref q_t_rowsTaken, .ref q_t_columnsTaken, .ref q_t_ways, .ref q_t_scaled, .ref q_t_rowFactors, .ref q_t_columnFactors, .ref q_t_rest, .ref q_t_diagonals, .ref q_t_weights])), (q_t_z, .inl (G.2 0, 50, .inl t_z)), (q_t_order, .inl (G.2 0, 7, .inl t_order))] sz)) (va_Qi (fun r9 (_ : Unit) => r9 = r) (fun _ t => atW G (va_A [(q_t, .inr (9, [.ref q_t_z, .ref q_t_old, .ref q_t_past, .int t_states, .ref q_t_kept, .int t_isKept, .ref q_t_text, .int t_length, .ref q_t_order, .ref q_t_told, .int t_spot, .int t_toldRows, .ref q_t_rowsTaken, .ref q_t_columnsTaken, .ref q_t_ways, .ref q_t_scaled, .ref q_t_rowFactors, .ref q_t_columnFactors, .ref q_t_rest, .ref q_t_diagonals, .ref q_t_weights])), (q_t_z, .inl (G.2 0, 50, .inl t_z)), (q_t_order, .inl (G.2 0, 7, .inl t_order))] sz) [(q_t, .inr (9, [.ref q_t_z, .ref q_t_old, .ref q_t_past, .int t_states, .ref q_t_kept, .int t_isKept, .ref q_t_text, .int t_length, .ref q_t_order, .ref q_t_told, .int t_spot, .int t_toldRows, .ref q_t_rowsTaken, .ref q_t_columnsTaken, .ref q_t_ways, .ref q_t_scaled, .ref q_t_rowFactors, .ref q_t_columnFactors, .ref q_t_rest, .ref q_t_diagonals, .ref q_t_weights])), (q_t_z, .inl (G.2 0, 50, .inl t_z)), (q_t_order, .inl (G.2 0, 7, .inl t_order))] t) (va_A [(q_t, .inr (9, [.ref q_t_z, .ref q_t_old, .ref q_t_past, .int t_states, .ref q_t_kept, .int t_isKept, .ref q_t_text, .int t_length, .ref q_t_order, .ref q_t_told, .int t_spot, .int t_toldRows, .ref q_t_rowsTaken, .ref q_t_columnsTaken, .ref q_t_ways, .ref q_t_scaled, .ref q_t_rowFactors, .ref q_t_columnFactors, .ref q_t_rest, .ref q_t_diagonals, .ref q_t_weights])), (q_t_z, .inl (G.2 0, 50, .inl t_z)), (q_t_order, .inl (G.2 0, 7, .inl t_order))] sz)) 0 0 (va_A [(q_t, .inr (9, [.ref q_t_z, .ref q_t_old, .ref q_t_past, .int t_states, .ref q_t_kept, .int t_isKept, .ref q_t_text, .int t_length, .ref q_t_order, .ref q_t_told, .int t_spot, .int t_toldRows, .ref q_t_rowsTaken, .ref q_t_columnsTaken, .ref q_t_ways, .ref q_t_scaled, .ref q_t_rowFactors, .ref q_t_columnFactors, .ref q_t_rest, .ref q_t_diagonals, .ref q_t_weights])), (q_t_z, .inl (G.2 0, 50, .inl t_z)), (q_t_order, .inl (G.2 0, 7, .inl t_order))] sz) := by
  refine Met.ofW (cc := cX10_isWhole) (maxL := 4) (ret := (some .boolean)) (by decide) rfl ?_
  intro p e s m args below meth c s₁ B hml hv
  obtain ⟨rfl, hsz, hP, hK, hD0⟩ := hv
  subst hsz
  have hD := hD0.self (sz := s.heap.size)
  generalize hAe : va_A [(q_t, .inr (9, [.ref q_t_z, .ref q_t_old, .ref q_t_past, .int t_states, .ref q_t_kept, .int t_isKept, .ref q_t_text, .int t_length, .ref q_t_order, .ref q_t_told, .int t_spot, .int t_toldRows, .ref q_t_rowsTaken, .ref q_t_columnsTaken, .ref q_t_ways, .ref q_t_scaled, .ref q_t_rowFactors, .ref q_t_columnFactors, .ref q_t_rest, .ref q_t_diagonals, .ref q_t_weights])), (q_t_z, .inl (G.2 0, 50, .inl t_z)), (q_t_order, .inl (G.2 0, 7, .inl t_order))] s.heap.size = A at hD ⊢
  have hA : ∀ q : Nat, s.heap.size ≤ q → A q := fun q h => by rw [← hAe]; exact Or.inr h
  have hl := lv_entry ([.ref q_t, .ref q_t_z]) (n := 4) (Nat.le_of_ble_eq_true rfl)
  rw [lg_entry_eq]
  refine k_X10_isWhole__a1_t_z ⟨B.exec, B.bytes, hml, findClass_of_methodNamed B.named, atoms_spec (ws := wsX10_isWhole) B.pre⟩ G hK hA q_t q_t_z q_t_old q_t_past q_t_kept q_t_text q_t_order q_t_told q_t_rowsTaken q_t_columnsTaken q_t_ways q_t_scaled q_t_rowFactors q_t_columnFactors q_t_rest q_t_diagonals q_t_weights _ _ _ _ _ _ _ _ h ?_ _ _ _ hP hD va_S.rf hl
  intro H locs ls pc hd hbo hP hD hS
  exact W.zret B.exec B.bytes B.returns (by rcases hbo with e | e <;> subst e <;> rfl) (fun t ht hW => ⟨⟨r, (), rfl, rfl, by rw [ht]; exact hP, hD⟩, hS.F ht⟩) hS.2.2 hd B.notSynchronized
set_option maxRecDepth 20000 in
theorem wd_X10_wholeDiagonal_2 : Cond.fieldLink RX10 7 "PermanentDeskModel" "z" "[I" ∈ wsX10_wholeDiagonal := List.mem_of_getElem? (i := 2) (by decide +kernel)
set_option maxRecDepth 20000 in
theorem wi_X10_wholeDiagonal_X10 : ∀ w ∈ u_ws RX10 TX10 21, w ∈ wsX10_wholeDiagonal := by decide +kernel
set_option maxRecDepth 20000 in
theorem wd_X10_wholeDiagonal_3 : Cond.constant RX10 75 (-2000000005) ∈ wsX10_wholeDiagonal := List.mem_of_getElem? (i := 3) (by decide +kernel)
set_option maxRecDepth 20000 in
theorem wd_X10_wholeDiagonal_1 : Cond.constant RX10 83 (-2000000002) ∈ wsX10_wholeDiagonal := List.mem_of_getElem? (i := 1) (by decide +kernel)
def f_X10_wholeDiagonal_L1 (t_z : Nat → Int32) : (Int32 × Int32 × (Nat → Int32)) → Option ((Int32 × Int32 × (Nat → Int32)) ⊕ ((Nat → Int32) ⊕ (Int32 × (Nat → Int32))))
  | (x2, x3, t_order) =>
    if x3 = 0 then
      some (.inr (.inl t_order))
    else
      (f_X10_isWhole__a1_t_z t_z t_order).bind (fun r_6 =>
      if r_6 = 0 then
        Option.bind (
          if r_6 = 0 then
            some (0 : Int32)
          else
            some (1 : Int32)) (fun y_10 =>
        pl ((x2 - y_10) : Int32) (fun x2_11 =>
        gd (okI (49 : Int32) 50) (
        (f_X10_nextOrder t_order (t_z (49 : Int32).toNatClampNeg)).bind (fun (r_14, t_order_13) =>
        some (.inl (x2_11, r_14, t_order_13))))))
      else
        if x2 = 0 then
          (f_X10_number t_z t_order).bind (fun r_24 =>
          some (.inr (.inr (r_24, t_order))))
        else
          Option.bind (
            if r_6 = 0 then
              some (0 : Int32)
            else
              some (1 : Int32)) (fun y_18 =>
          pl ((x2 - y_18) : Int32) (fun x2_19 =>
          gd (okI (49 : Int32) 50) (
          (f_X10_nextOrder t_order (t_z (49 : Int32).toNatClampNeg)).bind (fun (r_22, t_order_21) =>
          some (.inl (x2_19, r_22, t_order_21)))))))
def f_X10_wholeDiagonal (t_z : Nat → Int32) (t_order : Nat → Int32) (a1 : Int32) : Option (Int32 × (Nat → Int32)) :=
  if 0 ≤ a1 then
    gd (okI (49 : Int32) 50) (
    (f_X10_firstOrder t_order (t_z (49 : Int32).toNatClampNeg)).bind (fun t_order_3 =>
    (lpN (f_X10_wholeDiagonal_L1 t_z) FU (a1, (1 : Int32), t_order_3)).bind (fun z_27 => match z_27 with
    | .inl t_order_26 =>
      some ((-2000000005 : Int32), t_order_26)
    | .inr (r_29, t_order_30) => some (r_29, t_order_30))))
  else
    some ((-2000000002 : Int32), t_order)
set_option maxHeartbeats 4000000 in
set_option maxRecDepth 100000 in
theorem l_X10_wholeDiagonal_1 {p : Program} {l : Launch} {e : Env} {s : State} {m : MethodId} {args : Array Value} {below : List Frame} {meth : Method} {c : Code} {Q : State → Prop} {A0 : Nat → Prop} {H0 : Heap} (C : CallFix p m c cX10_wholeDiagonal 5 s args wsX10_wholeDiagonal RX10) (G : GT) (hK : gK G s) (hA : ∀ q : Nat, H0.size ≤ q → A0 q) (q_t q_t_z q_t_old q_t_past q_t_kept q_t_text q_t_order q_t_told q_t_rowsTaken q_t_columnsTaken q_t_ways q_t_scaled q_t_rowFactors q_t_columnFactors q_t_rest q_t_diagonals q_t_weights : Nat) (t_states : Int32) (t_isKept : Int32) (t_length : Int32) (t_spot : Int32) (t_toldRows : Int32) (t_z : Nat → Int32) (z : ((Nat → Int32) ⊕ (Int32 × (Nat → Int32)))) (K : ∀ (E_t_order : Nat → Int32), z = .inl E_t_order → ∀ (H : Heap) (locs : List Loc) (ls : Array Slot), va_P G.1 vwCl [(q_t, .inr (9, [.ref q_t_z, .ref q_t_old, .ref q_t_past, .int t_states, .ref q_t_kept, .int t_isKept, .ref q_t_text, .int t_length, .ref q_t_order, .ref q_t_told, .int t_spot, .int t_toldRows, .ref q_t_rowsTaken, .ref q_t_columnsTaken, .ref q_t_ways, .ref q_t_scaled, .ref q_t_rowFactors, .ref q_t_columnFactors, .ref q_t_rest, .ref q_t_diagonals, .ref q_t_weights])), (q_t_z, .inl (G.2 0, 50, .inl t_z)), (q_t_order, .inl (G.2 0, 7, .inl E_t_order))] H → va_D A0 [(q_t, .inr (9, [.ref q_t_z, .ref q_t_old, .ref q_t_past, .int t_states, .ref q_t_kept, .int t_isKept, .ref q_t_text, .int t_length, .ref q_t_order, .ref q_t_told, .int t_spot, .int t_toldRows, .ref q_t_rowsTaken, .ref q_t_columnsTaken, .ref q_t_ways, .ref q_t_scaled, .ref q_t_rowFactors, .ref q_t_columnFactors, .ref q_t_rest, .ref q_t_diagonals, .ref q_t_weights])), (q_t_z, .inl (G.2 0, 50, .inl t_z)), (q_t_order, .inl (G.2 0, 7, .inl E_t_order))] → va_S A0 H0 H locs → lv_has ls 5 [] → W p l e ({ frames := 2, cells := 0, slots := 0, locals := 48 } : Room) s m args below meth c H locs 0 0 Q (F0 m 78 ls [])) (KR : ∀ (r : Int32) (o_t_order : Nat → Int32), z = .inr (r, o_t_order) → ∀ (H : Heap) (locs : List Loc) (ls : Array Slot) (pc : Nat), decode cX10_wholeDiagonal pc = .ok (.ireturn, 1) → va_P G.1 vwCl [(q_t, .inr (9, [.ref q_t_z, .ref q_t_old, .ref q_t_past, .int t_states, .ref q_t_kept, .int t_isKept, .ref q_t_text, .int t_length, .ref q_t_order, .ref q_t_told, .int t_spot, .int t_toldRows, .ref q_t_rowsTaken, .ref q_t_columnsTaken, .ref q_t_ways, .ref q_t_scaled, .ref q_t_rowFactors, .ref q_t_columnFactors, .ref q_t_rest, .ref q_t_diagonals, .ref q_t_weights])), (q_t_z, .inl (G.2 0, 50, .inl t_z)), (q_t_order, .inl (G.2 0, 7, .inl o_t_order))] H → va_D A0 [(q_t, .inr (9, [.ref q_t_z, .ref q_t_old, .ref q_t_past, .int t_states, .ref q_t_kept, .int t_isKept, .ref q_t_text, .int t_length, .ref q_t_order, .ref q_t_told, .int t_spot, .int t_toldRows, .ref q_t_rowsTaken, .ref q_t_columnsTaken, .ref q_t_ways, .ref q_t_scaled, .ref q_t_rowFactors, .ref q_t_columnFactors, .ref q_t_rest, .ref q_t_diagonals, .ref q_t_weights])), (q_t_z, .inl (G.2 0, 50, .inl t_z)), (q_t_order, .inl (G.2 0, 7, .inl o_t_order))] → va_S A0 H0 H locs → W p l e ({ frames := 2, cells := 0, slots := 0, locals := 48 } : Room) s m args below meth c H locs 0 0 Q (F0 m pc ls [.int r])) : ∀ (n : Nat) (x2 : Int32) (x3 : Int32) (t_order : Nat → Int32), lpN (f_X10_wholeDiagonal_L1 t_z) n (x2, x3, t_order) = some z → ∀ (H : Heap) (locs : List Loc) (ls : Array Slot), va_P G.1 vwCl [(q_t, .inr (9, [.ref q_t_z, .ref q_t_old, .ref q_t_past, .int t_states, .ref q_t_kept, .int t_isKept, .ref q_t_text, .int t_length, .ref q_t_order, .ref q_t_told, .int t_spot, .int t_toldRows, .ref q_t_rowsTaken, .ref q_t_columnsTaken, .ref q_t_ways, .ref q_t_scaled, .ref q_t_rowFactors, .ref q_t_columnFactors, .ref q_t_rest, .ref q_t_diagonals, .ref q_t_weights])), (q_t_z, .inl (G.2 0, 50, .inl t_z)), (q_t_order, .inl (G.2 0, 7, .inl t_order))] H → va_D A0 [(q_t, .inr (9, [.ref q_t_z, .ref q_t_old, .ref q_t_past, .int t_states, .ref q_t_kept, .int t_isKept, .ref q_t_text, .int t_length, .ref q_t_order, .ref q_t_told, .int t_spot, .int t_toldRows, .ref q_t_rowsTaken, .ref q_t_columnsTaken, .ref q_t_ways, .ref q_t_scaled, .ref q_t_rowFactors, .ref q_t_columnFactors, .ref q_t_rest, .ref q_t_diagonals, .ref q_t_weights])), (q_t_z, .inl (G.2 0, 50, .inl t_z)), (q_t_order, .inl (G.2 0, 7, .inl t_order))] → va_S A0 H0 H locs → lv_has ls 5 [(0, .ref q_t), (2, .int x2), (3, .int x3)] → W p l e ({ frames := 2, cells := 0, slots := 0, locals := 48 } : Room) s m args below meth c H locs 0 0 Q (F0 m 22 ls []) := by
  obtain ⟨hx, hb, hml, hown, hts⟩ := C
  intro n
  induction n with
  | zero => intro x2 x3 t_order h; exact absurd h (fun h => lp_0 h)
  | succ n ih =>
    intro x2 x3 t_order h H locs ls hP hD hS hl
    obtain ⟨y, h, hk⟩ := lp_s h
    rw [f_X10_wholeDiagonal_L1] at h
    refine lv_iload_n hx hb dX10_wholeDiagonal_22 rfl (lv_at hl 2 rfl) ?_
    refine lv_if_eq (tgt := 78) hx hb dX10_wholeDiagonal_23 (by decide) (fun c_5 => ?_) (fun c_5 => ?_)
    · replace h := it_t h c_5
      obtain rfl := sm1 h
      obtain rfl := sm1 hk
      exact K t_order rfl H locs ls hP hD hS (lv_sub hl [] rfl)
    · replace h := it_f h c_5
      refine lv_aload_n hx hb dX10_wholeDiagonal_26 rfl (lv_at hl 0 rfl) ?_
      refine lv_aload_n hx hb dX10_wholeDiagonal_27 rfl (lv_at hl 0 rfl) ?_
      refine va_get (D := G.1) (ci := 9) (v := .ref q_t_z) (C := RX10) (T := TX10) (N := 21) hx hb hts wi_X10_wholeDiagonal_X10 hown hK hP 0 rfl rfl 0 (by decide) (hts _ wd_X10_wholeDiagonal_2) (fun _ h9 => h9) rfl dX10_wholeDiagonal_28 ?_
      obtain ⟨r_6, hf_7, h⟩ := bd_ok h
      refine ck_Vi (rest := []) (wn := [(q_t, .inr (9, [.ref q_t_z, .ref q_t_old, .ref q_t_past, .int t_states, .ref q_t_kept, .int t_isKept, .ref q_t_text, .int t_length, .ref q_t_order, .ref q_t_told, .int t_spot, .int t_toldRows, .ref q_t_rowsTaken, .ref q_t_columnsTaken, .ref q_t_ways, .ref q_t_scaled, .ref q_t_rowFactors, .ref q_t_columnFactors, .ref q_t_rest, .ref q_t_diagonals, .ref q_t_weights])), (q_t_z, .inl (G.2 0, 50, .inl t_z)), (q_t_order, .inl (G.2 0, 7, .inl t_order))]) ⟨hx, hb, hml, hown, hts⟩ hK hP hD hS hA [0, 1, 2] [] [0, 1, 2] (c_X10_isWhole__a1_t_z l G q_t q_t_z q_t_old q_t_past q_t_kept q_t_text q_t_order q_t_told q_t_rowsTaken q_t_columnsTaken q_t_ways q_t_scaled q_t_rowFactors q_t_columnFactors q_t_rest q_t_diagonals q_t_weights _ t_states t_isKept t_length t_spot t_toldRows t_z t_order _ hf_7) (cwV 1 hts gX10_wholeDiagonal_X10_isWhole rfl rfl rfl (by decide +kernel) ⟨Nat.le_of_ble_eq_true rfl, Nat.le_of_ble_eq_true rfl⟩) rfl rfl rfl rfl rfl rfl (by decide) rfl rfl rfl hl.1 rfl (Nat.le_of_ble_eq_true rfl) dX10_wholeDiagonal_31 ⟨Nat.zero_le _, Nat.zero_le _⟩ (fun H locs hP hD hS => ?_)
      refine lv_istore (lv' := [(4, .int r_6), (0, .ref q_t), (2, .int x2), (3, .int x3)]) hx hb dX10_wholeDiagonal_34 hl (by decide) rfl (fun ls hl => ?_)
      refine lv_iload hx hb dX10_wholeDiagonal_36 (lv_at hl 0 rfl) ?_
      refine lv_if_eq (tgt := 50) hx hb dX10_wholeDiagonal_38 (by decide) (fun c_8 => ?_) (fun c_8 => ?_)
      · replace h := it_t h c_8
        refine lv_iload_n hx hb dX10_wholeDiagonal_50 rfl (lv_at hl 2 rfl) ?_
        refine lv_iload hx hb dX10_wholeDiagonal_51 (lv_at hl 0 rfl) ?_
        obtain ⟨y_10, hr, h⟩ := bd_ok h
        have J : ∀ (H : Heap) (locs : List Loc) (ls : Array Slot), va_P G.1 vwCl [(q_t, .inr (9, [.ref q_t_z, .ref q_t_old, .ref q_t_past, .int t_states, .ref q_t_kept, .int t_isKept, .ref q_t_text, .int t_length, .ref q_t_order, .ref q_t_told, .int t_spot, .int t_toldRows, .ref q_t_rowsTaken, .ref q_t_columnsTaken, .ref q_t_ways, .ref q_t_scaled, .ref q_t_rowFactors, .ref q_t_columnFactors, .ref q_t_rest, .ref q_t_diagonals, .ref q_t_weights])), (q_t_z, .inl (G.2 0, 50, .inl t_z)), (q_t_order, .inl (G.2 0, 7, .inl t_order))] H → va_D A0 [(q_t, .inr (9, [.ref q_t_z, .ref q_t_old, .ref q_t_past, .int t_states, .ref q_t_kept, .int t_isKept, .ref q_t_text, .int t_length, .ref q_t_order, .ref q_t_told, .int t_spot, .int t_toldRows, .ref q_t_rowsTaken, .ref q_t_columnsTaken, .ref q_t_ways, .ref q_t_scaled, .ref q_t_rowFactors, .ref q_t_columnFactors, .ref q_t_rest, .ref q_t_diagonals, .ref q_t_weights])), (q_t_z, .inl (G.2 0, 50, .inl t_z)), (q_t_order, .inl (G.2 0, 7, .inl t_order))] → va_S A0 H0 H locs → lv_has ls 5 [(0, .ref q_t)] → W p l e ({ frames := 2, cells := 0, slots := 0, locals := 48 } : Room) s m args below meth c H locs 0 0 Q (F0 m 61 ls [.int y_10, .int x2]) := by
          intro H locs ls hP hD hS hl
          refine lv_isub hx hb dX10_wholeDiagonal_61 ?_
          refine lv_topi (fun x2_11 ex2_11 => ?_)
          replace h := pl_v h ex2_11
          refine lv_istore_n (lv' := [(2, .int x2_11), (0, .ref q_t)]) hx hb dX10_wholeDiagonal_62 rfl hl (by decide) rfl (fun ls hl => ?_)
          refine lv_aload_n hx hb dX10_wholeDiagonal_63 rfl (lv_at hl 1 rfl) ?_
          refine lv_aload_n hx hb dX10_wholeDiagonal_64 rfl (lv_at hl 1 rfl) ?_
          refine va_get (D := G.1) (ci := 9) (v := .ref q_t_z) (C := RX10) (T := TX10) (N := 21) hx hb hts wi_X10_wholeDiagonal_X10 hown hK hP 0 rfl rfl 0 (by decide) (hts _ wd_X10_wholeDiagonal_2) (fun _ h9 => h9) rfl dX10_wholeDiagonal_65 ?_
          refine lv_bipush (v := 49) hx hb dX10_wholeDiagonal_68 (by decide) ?_
          obtain ⟨g_12, h⟩ := gd_ok h
          refine va_iald (D := G.1) hx hb hK hP 1 0 rfl rfl g_12 dX10_wholeDiagonal_70 ?_
          obtain ⟨⟨r_14, t_order_13⟩, hf_15, h⟩ := bd_ok h
          refine ck_Vi (rest := []) (wn := [(q_t, .inr (9, [.ref q_t_z, .ref q_t_old, .ref q_t_past, .int t_states, .ref q_t_kept, .int t_isKept, .ref q_t_text, .int t_length, .ref q_t_order, .ref q_t_told, .int t_spot, .int t_toldRows, .ref q_t_rowsTaken, .ref q_t_columnsTaken, .ref q_t_ways, .ref q_t_scaled, .ref q_t_rowFactors, .ref q_t_columnFactors, .ref q_t_rest, .ref q_t_diagonals, .ref q_t_weights])), (q_t_z, .inl (G.2 0, 50, .inl t_z)), (q_t_order, .inl (G.2 0, 7, .inl t_order_13))]) ⟨hx, hb, hml, hown, hts⟩ hK hP hD hS hA [0, 2] [1] [1, 0, 2] (c_X10_nextOrder l G q_t q_t_z q_t_old q_t_past q_t_kept q_t_text q_t_order q_t_told q_t_rowsTaken q_t_columnsTaken q_t_ways q_t_scaled q_t_rowFactors q_t_columnFactors q_t_rest q_t_diagonals q_t_weights _ t_states t_isKept t_length t_spot t_toldRows t_order (t_z (49 : Int32).toNatClampNeg) _ _ hf_15) (cwV 1 hts gX10_wholeDiagonal_X10_nextOrder rfl rfl rfl (by decide +kernel) ⟨Nat.le_of_ble_eq_true rfl, Nat.le_of_ble_eq_true rfl⟩) rfl rfl rfl rfl rfl rfl (by decide) rfl rfl rfl hl.1 rfl (Nat.le_of_ble_eq_true rfl) dX10_wholeDiagonal_71 ⟨Nat.zero_le _, Nat.zero_le _⟩ (fun H locs hP hD hS => ?_)
          refine lv_istore_n (lv' := [(3, .int r_14), (2, .int x2_11), (0, .ref q_t)]) hx hb dX10_wholeDiagonal_74 rfl hl (by decide) rfl (fun ls hl => ?_)
          refine lv_goto (tgt := 22) hx hb dX10_wholeDiagonal_75 (by decide) ?_
          obtain rfl := sm1 h
          exact ih x2_11 r_14 t_order_13 hk H locs ls hP hD hS (lv_sub hl [2, 1, 0] rfl)
        replace h := hr
        clear hr
        refine lv_if_eq (tgt := 60) hx hb dX10_wholeDiagonal_53 (by decide) (fun c_9 => ?_) (fun c_9 => ?_)
        · replace h := it_t h c_9
          refine lv_iconst (v := 0) hx hb dX10_wholeDiagonal_60 (by decide) ?_
          obtain rfl := sm1 h
          exact J H locs ls hP hD hS (lv_sub hl [1] rfl)
        · replace h := it_f h c_9
          refine lv_iconst (v := 1) hx hb dX10_wholeDiagonal_56 (by decide) ?_
          refine lv_goto (tgt := 61) hx hb dX10_wholeDiagonal_57 (by decide) ?_
          obtain rfl := sm1 h
          exact J H locs ls hP hD hS (lv_sub hl [1] rfl)
      · replace h := it_f h c_8
        refine lv_iload_n hx hb dX10_wholeDiagonal_41 rfl (lv_at hl 2 rfl) ?_
        refine lv_if_ne (tgt := 50) hx hb dX10_wholeDiagonal_42 (by decide) (fun c_16 => ?_) (fun c_16 => ?_)
        · replace h := it_f h c_16
          refine lv_iload_n hx hb dX10_wholeDiagonal_50 rfl (lv_at hl 2 rfl) ?_
          refine lv_iload hx hb dX10_wholeDiagonal_51 (lv_at hl 0 rfl) ?_
          obtain ⟨y_18, hr, h⟩ := bd_ok h
          have J : ∀ (H : Heap) (locs : List Loc) (ls : Array Slot), va_P G.1 vwCl [(q_t, .inr (9, [.ref q_t_z, .ref q_t_old, .ref q_t_past, .int t_states, .ref q_t_kept, .int t_isKept, .ref q_t_text, .int t_length, .ref q_t_order, .ref q_t_told, .int t_spot, .int t_toldRows, .ref q_t_rowsTaken, .ref q_t_columnsTaken, .ref q_t_ways, .ref q_t_scaled, .ref q_t_rowFactors, .ref q_t_columnFactors, .ref q_t_rest, .ref q_t_diagonals, .ref q_t_weights])), (q_t_z, .inl (G.2 0, 50, .inl t_z)), (q_t_order, .inl (G.2 0, 7, .inl t_order))] H → va_D A0 [(q_t, .inr (9, [.ref q_t_z, .ref q_t_old, .ref q_t_past, .int t_states, .ref q_t_kept, .int t_isKept, .ref q_t_text, .int t_length, .ref q_t_order, .ref q_t_told, .int t_spot, .int t_toldRows, .ref q_t_rowsTaken, .ref q_t_columnsTaken, .ref q_t_ways, .ref q_t_scaled, .ref q_t_rowFactors, .ref q_t_columnFactors, .ref q_t_rest, .ref q_t_diagonals, .ref q_t_weights])), (q_t_z, .inl (G.2 0, 50, .inl t_z)), (q_t_order, .inl (G.2 0, 7, .inl t_order))] → va_S A0 H0 H locs → lv_has ls 5 [(0, .ref q_t)] → W p l e ({ frames := 2, cells := 0, slots := 0, locals := 48 } : Room) s m args below meth c H locs 0 0 Q (F0 m 61 ls [.int y_18, .int x2]) := by
            intro H locs ls hP hD hS hl
            refine lv_isub hx hb dX10_wholeDiagonal_61 ?_
            refine lv_topi (fun x2_19 ex2_19 => ?_)
            replace h := pl_v h ex2_19
            refine lv_istore_n (lv' := [(2, .int x2_19), (0, .ref q_t)]) hx hb dX10_wholeDiagonal_62 rfl hl (by decide) rfl (fun ls hl => ?_)
            refine lv_aload_n hx hb dX10_wholeDiagonal_63 rfl (lv_at hl 1 rfl) ?_
            refine lv_aload_n hx hb dX10_wholeDiagonal_64 rfl (lv_at hl 1 rfl) ?_
            refine va_get (D := G.1) (ci := 9) (v := .ref q_t_z) (C := RX10) (T := TX10) (N := 21) hx hb hts wi_X10_wholeDiagonal_X10 hown hK hP 0 rfl rfl 0 (by decide) (hts _ wd_X10_wholeDiagonal_2) (fun _ h9 => h9) rfl dX10_wholeDiagonal_65 ?_
            refine lv_bipush (v := 49) hx hb dX10_wholeDiagonal_68 (by decide) ?_
            obtain ⟨g_20, h⟩ := gd_ok h
            refine va_iald (D := G.1) hx hb hK hP 1 0 rfl rfl g_20 dX10_wholeDiagonal_70 ?_
            obtain ⟨⟨r_22, t_order_21⟩, hf_23, h⟩ := bd_ok h
            refine ck_Vi (rest := []) (wn := [(q_t, .inr (9, [.ref q_t_z, .ref q_t_old, .ref q_t_past, .int t_states, .ref q_t_kept, .int t_isKept, .ref q_t_text, .int t_length, .ref q_t_order, .ref q_t_told, .int t_spot, .int t_toldRows, .ref q_t_rowsTaken, .ref q_t_columnsTaken, .ref q_t_ways, .ref q_t_scaled, .ref q_t_rowFactors, .ref q_t_columnFactors, .ref q_t_rest, .ref q_t_diagonals, .ref q_t_weights])), (q_t_z, .inl (G.2 0, 50, .inl t_z)), (q_t_order, .inl (G.2 0, 7, .inl t_order_21))]) ⟨hx, hb, hml, hown, hts⟩ hK hP hD hS hA [0, 2] [1] [1, 0, 2] (c_X10_nextOrder l G q_t q_t_z q_t_old q_t_past q_t_kept q_t_text q_t_order q_t_told q_t_rowsTaken q_t_columnsTaken q_t_ways q_t_scaled q_t_rowFactors q_t_columnFactors q_t_rest q_t_diagonals q_t_weights _ t_states t_isKept t_length t_spot t_toldRows t_order (t_z (49 : Int32).toNatClampNeg) _ _ hf_23) (cwV 1 hts gX10_wholeDiagonal_X10_nextOrder rfl rfl rfl (by decide +kernel) ⟨Nat.le_of_ble_eq_true rfl, Nat.le_of_ble_eq_true rfl⟩) rfl rfl rfl rfl rfl rfl (by decide) rfl rfl rfl hl.1 rfl (Nat.le_of_ble_eq_true rfl) dX10_wholeDiagonal_71 ⟨Nat.zero_le _, Nat.zero_le _⟩ (fun H locs hP hD hS => ?_)
            refine lv_istore_n (lv' := [(3, .int r_22), (2, .int x2_19), (0, .ref q_t)]) hx hb dX10_wholeDiagonal_74 rfl hl (by decide) rfl (fun ls hl => ?_)
            refine lv_goto (tgt := 22) hx hb dX10_wholeDiagonal_75 (by decide) ?_
            obtain rfl := sm1 h
            exact ih x2_19 r_22 t_order_21 hk H locs ls hP hD hS (lv_sub hl [2, 1, 0] rfl)
          replace h := hr
          clear hr
          refine lv_if_eq (tgt := 60) hx hb dX10_wholeDiagonal_53 (by decide) (fun c_17 => ?_) (fun c_17 => ?_)
          · replace h := it_t h c_17
            refine lv_iconst (v := 0) hx hb dX10_wholeDiagonal_60 (by decide) ?_
            obtain rfl := sm1 h
            exact J H locs ls hP hD hS (lv_sub hl [1] rfl)
          · replace h := it_f h c_17
            refine lv_iconst (v := 1) hx hb dX10_wholeDiagonal_56 (by decide) ?_
            refine lv_goto (tgt := 61) hx hb dX10_wholeDiagonal_57 (by decide) ?_
            obtain rfl := sm1 h
            exact J H locs ls hP hD hS (lv_sub hl [1] rfl)
        · replace h := it_t h c_16
          refine lv_aload_n hx hb dX10_wholeDiagonal_45 rfl (lv_at hl 1 rfl) ?_
          obtain ⟨r_24, hf_25, h⟩ := bd_ok h
          refine ck_Vi (rest := []) (wn := [(q_t, .inr (9, [.ref q_t_z, .ref q_t_old, .ref q_t_past, .int t_states, .ref q_t_kept, .int t_isKept, .ref q_t_text, .int t_length, .ref q_t_order, .ref q_t_told, .int t_spot, .int t_toldRows, .ref q_t_rowsTaken, .ref q_t_columnsTaken, .ref q_t_ways, .ref q_t_scaled, .ref q_t_rowFactors, .ref q_t_columnFactors, .ref q_t_rest, .ref q_t_diagonals, .ref q_t_weights])), (q_t_z, .inl (G.2 0, 50, .inl t_z)), (q_t_order, .inl (G.2 0, 7, .inl t_order))]) ⟨hx, hb, hml, hown, hts⟩ hK hP hD hS hA [0, 1, 2] [] [0, 1, 2] (c_X10_number l G q_t q_t_z q_t_old q_t_past q_t_kept q_t_text q_t_order q_t_told q_t_rowsTaken q_t_columnsTaken q_t_ways q_t_scaled q_t_rowFactors q_t_columnFactors q_t_rest q_t_diagonals q_t_weights _ t_states t_isKept t_length t_spot t_toldRows t_z t_order _ hf_25) (cwV 0 hts gX10_wholeDiagonal_X10_number rfl rfl rfl (by decide +kernel) ⟨Nat.le_of_ble_eq_true rfl, Nat.le_of_ble_eq_true rfl⟩) rfl rfl rfl rfl rfl rfl (by decide) rfl rfl rfl hl.1 rfl (Nat.le_of_ble_eq_true rfl) dX10_wholeDiagonal_46 ⟨Nat.zero_le _, Nat.zero_le _⟩ (fun H locs hP hD hS => ?_)
          obtain rfl := sm1 h
          obtain rfl := sm1 hk
          exact KR r_24 t_order rfl H locs ls 49 dX10_wholeDiagonal_49 hP hD hS
set_option maxHeartbeats 4000000 in
set_option maxRecDepth 100000 in
theorem k_X10_wholeDiagonal {p : Program} {l : Launch} {e : Env} {s : State} {m : MethodId} {args : Array Value} {below : List Frame} {meth : Method} {c : Code} {Q : State → Prop} {A0 : Nat → Prop} {H0 : Heap} (C : CallFix p m c cX10_wholeDiagonal 5 s args wsX10_wholeDiagonal RX10) (G : GT) (hK : gK G s) (hA : ∀ q : Nat, H0.size ≤ q → A0 q) (q_t q_t_z q_t_old q_t_past q_t_kept q_t_text q_t_order q_t_told q_t_rowsTaken q_t_columnsTaken q_t_ways q_t_scaled q_t_rowFactors q_t_columnFactors q_t_rest q_t_diagonals q_t_weights : Nat) (t_states : Int32) (t_isKept : Int32) (t_length : Int32) (t_spot : Int32) (t_toldRows : Int32) (t_z : Nat → Int32) (t_order : Nat → Int32) (a1 : Int32) (r : Int32) (o_t_order : Nat → Int32) (h : f_X10_wholeDiagonal t_z t_order a1 = some (r, o_t_order)) (KR : ∀ (H : Heap) (locs : List Loc) (ls : Array Slot) (pc : Nat), decode cX10_wholeDiagonal pc = .ok (.ireturn, 1) → va_P G.1 vwCl [(q_t, .inr (9, [.ref q_t_z, .ref q_t_old, .ref q_t_past, .int t_states, .ref q_t_kept, .int t_isKept, .ref q_t_text, .int t_length, .ref q_t_order, .ref q_t_told, .int t_spot, .int t_toldRows, .ref q_t_rowsTaken, .ref q_t_columnsTaken, .ref q_t_ways, .ref q_t_scaled, .ref q_t_rowFactors, .ref q_t_columnFactors, .ref q_t_rest, .ref q_t_diagonals, .ref q_t_weights])), (q_t_z, .inl (G.2 0, 50, .inl t_z)), (q_t_order, .inl (G.2 0, 7, .inl o_t_order))] H → va_D A0 [(q_t, .inr (9, [.ref q_t_z, .ref q_t_old, .ref q_t_past, .int t_states, .ref q_t_kept, .int t_isKept, .ref q_t_text, .int t_length, .ref q_t_order, .ref q_t_told, .int t_spot, .int t_toldRows, .ref q_t_rowsTaken, .ref q_t_columnsTaken, .ref q_t_ways, .ref q_t_scaled, .ref q_t_rowFactors, .ref q_t_columnFactors, .ref q_t_rest, .ref q_t_diagonals, .ref q_t_weights])), (q_t_z, .inl (G.2 0, 50, .inl t_z)), (q_t_order, .inl (G.2 0, 7, .inl o_t_order))] → va_S A0 H0 H locs → W p l e ({ frames := 2, cells := 0, slots := 0, locals := 48 } : Room) s m args below meth c H locs 0 0 Q (F0 m pc ls [.int r])) : ∀ (H : Heap) (locs : List Loc) (ls : Array Slot), va_P G.1 vwCl [(q_t, .inr (9, [.ref q_t_z, .ref q_t_old, .ref q_t_past, .int t_states, .ref q_t_kept, .int t_isKept, .ref q_t_text, .int t_length, .ref q_t_order, .ref q_t_told, .int t_spot, .int t_toldRows, .ref q_t_rowsTaken, .ref q_t_columnsTaken, .ref q_t_ways, .ref q_t_scaled, .ref q_t_rowFactors, .ref q_t_columnFactors, .ref q_t_rest, .ref q_t_diagonals, .ref q_t_weights])), (q_t_z, .inl (G.2 0, 50, .inl t_z)), (q_t_order, .inl (G.2 0, 7, .inl t_order))] H → va_D A0 [(q_t, .inr (9, [.ref q_t_z, .ref q_t_old, .ref q_t_past, .int t_states, .ref q_t_kept, .int t_isKept, .ref q_t_text, .int t_length, .ref q_t_order, .ref q_t_told, .int t_spot, .int t_toldRows, .ref q_t_rowsTaken, .ref q_t_columnsTaken, .ref q_t_ways, .ref q_t_scaled, .ref q_t_rowFactors, .ref q_t_columnFactors, .ref q_t_rest, .ref q_t_diagonals, .ref q_t_weights])), (q_t_z, .inl (G.2 0, 50, .inl t_z)), (q_t_order, .inl (G.2 0, 7, .inl t_order))] → va_S A0 H0 H locs → lv_has ls 5 [(0, .ref q_t), (1, .int a1)] → W p l e ({ frames := 2, cells := 0, slots := 0, locals := 48 } : Room) s m args below meth c H locs 0 0 Q (F0 m 0 ls []) := by
  obtain ⟨hx, hb, hml, hown, hts⟩ := C
  intro H locs ls hP hD hS hl
  rw [f_X10_wholeDiagonal] at h
  refine lv_iload_n hx hb dX10_wholeDiagonal_0 rfl (lv_at hl 1 rfl) ?_
  refine lv_if_ge (tgt := 7) hx hb dX10_wholeDiagonal_1 (by decide) (fun c_1 => ?_) (fun c_1 => ?_)
  · replace h := it_t h c_1
    refine lv_iload_n hx hb dX10_wholeDiagonal_7 rfl (lv_at hl 1 rfl) ?_
    refine lv_istore_n (lv' := [(2, .int a1), (0, .ref q_t), (1, .int a1)]) hx hb dX10_wholeDiagonal_8 rfl hl (by decide) rfl (fun ls hl => ?_)
    refine lv_aload_n hx hb dX10_wholeDiagonal_9 rfl (lv_at hl 1 rfl) ?_
    refine lv_aload_n hx hb dX10_wholeDiagonal_10 rfl (lv_at hl 1 rfl) ?_
    refine va_get (D := G.1) (ci := 9) (v := .ref q_t_z) (C := RX10) (T := TX10) (N := 21) hx hb hts wi_X10_wholeDiagonal_X10 hown hK hP 0 rfl rfl 0 (by decide) (hts _ wd_X10_wholeDiagonal_2) (fun _ h9 => h9) rfl dX10_wholeDiagonal_11 ?_
    refine lv_bipush (v := 49) hx hb dX10_wholeDiagonal_14 (by decide) ?_
    obtain ⟨g_2, h⟩ := gd_ok h
    refine va_iald (D := G.1) hx hb hK hP 1 0 rfl rfl g_2 dX10_wholeDiagonal_16 ?_
    obtain ⟨t_order_3, hf_4, h⟩ := bd_ok h
    refine ck_Vv (rest := []) (wn := [(q_t, .inr (9, [.ref q_t_z, .ref q_t_old, .ref q_t_past, .int t_states, .ref q_t_kept, .int t_isKept, .ref q_t_text, .int t_length, .ref q_t_order, .ref q_t_told, .int t_spot, .int t_toldRows, .ref q_t_rowsTaken, .ref q_t_columnsTaken, .ref q_t_ways, .ref q_t_scaled, .ref q_t_rowFactors, .ref q_t_columnFactors, .ref q_t_rest, .ref q_t_diagonals, .ref q_t_weights])), (q_t_z, .inl (G.2 0, 50, .inl t_z)), (q_t_order, .inl (G.2 0, 7, .inl t_order_3))]) ⟨hx, hb, hml, hown, hts⟩ hK hP hD hS hA [0, 2] [1] [1, 0, 2] (c_X10_firstOrder l G q_t q_t_z q_t_old q_t_past q_t_kept q_t_text q_t_order q_t_told q_t_rowsTaken q_t_columnsTaken q_t_ways q_t_scaled q_t_rowFactors q_t_columnFactors q_t_rest q_t_diagonals q_t_weights _ t_states t_isKept t_length t_spot t_toldRows t_order (t_z (49 : Int32).toNatClampNeg) _ hf_4) (cwV 1 hts gX10_wholeDiagonal_X10_firstOrder rfl rfl rfl (by decide +kernel) ⟨Nat.le_of_ble_eq_true rfl, Nat.le_of_ble_eq_true rfl⟩) rfl rfl rfl rfl rfl rfl (by decide) rfl rfl rfl hl.1 rfl (Nat.le_of_ble_eq_true rfl) dX10_wholeDiagonal_17 ⟨Nat.zero_le _, Nat.zero_le _⟩ (fun H locs hP hD hS => ?_)
    refine lv_iconst (v := 1) hx hb dX10_wholeDiagonal_20 (by decide) ?_
    refine lv_istore_n (lv' := [(3, .int (1 : Int32)), (2, .int a1), (0, .ref q_t), (1, .int a1)]) hx hb dX10_wholeDiagonal_21 rfl hl (by decide) rfl (fun ls hl => ?_)
    obtain ⟨z_27, hz_28, h⟩ := bd_ok h
    refine l_X10_wholeDiagonal_1 ⟨hx, hb, hml, hown, hts⟩ G hK hA q_t q_t_z q_t_old q_t_past q_t_kept q_t_text q_t_order q_t_told q_t_rowsTaken q_t_columnsTaken q_t_ways q_t_scaled q_t_rowFactors q_t_columnFactors q_t_rest q_t_diagonals q_t_weights t_states t_isKept t_length t_spot t_toldRows t_z z_27 ?_ ?_ FU a1 (1 : Int32) t_order_3 hz_28 H locs ls hP hD hS (lv_sub hl [2, 1, 0] rfl)
    · intro t_order_26 hz H locs ls hP hD hS hl
      subst hz
      refine lv_ldc (v := -2000000005) hx hb hown (hts _ wd_X10_wholeDiagonal_3) dX10_wholeDiagonal_78 ?_
      obtain ⟨rfl, rfl⟩ := sm2 h
      exact KR H locs ls 80 dX10_wholeDiagonal_80 hP hD hS
    · intro r_29 t_order_30 hz H locs ls pc hd hP hD hS
      subst hz
      obtain ⟨rfl, rfl⟩ := sm2 h
      exact KR H locs ls pc hd hP hD hS
  · replace h := it_f h c_1
    refine lv_ldc (v := -2000000002) hx hb hown (hts _ wd_X10_wholeDiagonal_1) dX10_wholeDiagonal_4 ?_
    obtain ⟨rfl, rfl⟩ := sm2 h
    exact KR H locs ls 6 dX10_wholeDiagonal_6 hP hD hS
set_option maxHeartbeats 4000000 in
set_option maxRecDepth 100000 in
theorem c_X10_wholeDiagonal (l : Launch) (G : GT) (q_t q_t_z q_t_old q_t_past q_t_kept q_t_text q_t_order q_t_told q_t_rowsTaken q_t_columnsTaken q_t_ways q_t_scaled q_t_rowFactors q_t_columnFactors q_t_rest q_t_diagonals q_t_weights : Nat) (sz : Nat) (t_states : Int32) (t_isKept : Int32) (t_length : Int32) (t_spot : Int32) (t_toldRows : Int32) (t_z : Nat → Int32) (t_order : Nat → Int32) (a1 : Int32) (r : Int32) (o_t_order : Nat → Int32) (h : f_X10_wholeDiagonal t_z t_order a1 = some (r, o_t_order)) : Met l yX10_wholeDiagonal wsX10_wholeDiagonal ({ frames := 2, cells := 0, slots := 0, locals := 48 } : Room) (va_Pc [.ref q_t, .int a1] (pcW G [(q_t, .inr (9, [.ref q_t_z, .ref q_t_old, .ref q_t_past, .int t_states, .ref q_t_kept, .int t_isKept, .ref q_t_text, .int t_length, .ref q_t_order, .ref q_t_told, .int t_spot, .int t_toldRows, .ref q_t_rowsTaken, .ref q_t_columnsTaken, .ref q_t_ways, .ref q_t_scaled, .ref q_t_rowFactors, .ref q_t_columnFactors, .ref q_t_rest, .ref q_t_diagonals, .ref q_t_weights])), (q_t_z, .inl (G.2 0, 50, .inl t_z)), (q_t_order, .inl (G.2 0, 7, .inl t_order))] sz)) (va_Qi (fun r9 (_ : Unit) => r9 = r) (fun _ t => atW G (va_A [(q_t, .inr (9, [.ref q_t_z, .ref q_t_old, .ref q_t_past, .int t_states, .ref q_t_kept, .int t_isKept, .ref q_t_text, .int t_length, .ref q_t_order, .ref q_t_told, .int t_spot, .int t_toldRows, .ref q_t_rowsTaken, .ref q_t_columnsTaken, .ref q_t_ways, .ref q_t_scaled, .ref q_t_rowFactors, .ref q_t_columnFactors, .ref q_t_rest, .ref q_t_diagonals, .ref q_t_weights])), (q_t_z, .inl (G.2 0, 50, .inl t_z)), (q_t_order, .inl (G.2 0, 7, .inl t_order))] sz) [(q_t, .inr (9, [.ref q_t_z, .ref q_t_old, .ref q_t_past, .int t_states, .ref q_t_kept, .int t_isKept, .ref q_t_text, .int t_length, .ref q_t_order, .ref q_t_told, .int t_spot, .int t_toldRows, .ref q_t_rowsTaken, .ref q_t_columnsTaken, .ref q_t_ways, .ref q_t_scaled, .ref q_t_rowFactors, .ref q_t_columnFactors, .ref q_t_rest, .ref q_t_diagonals, .ref q_t_weights])), (q_t_z, .inl (G.2 0, 50, .inl t_z)), (q_t_order, .inl (G.2 0, 7, .inl o_t_order))] t) (va_A [(q_t, .inr (9, [.ref q_t_z, .ref q_t_old, .ref q_t_past, .int t_states, .ref q_t_kept, .int t_isKept, .ref q_t_text, .int t_length, .ref q_t_order, .ref q_t_told, .int t_spot, .int t_toldRows, .ref q_t_rowsTaken, .ref q_t_columnsTaken, .ref q_t_ways, .ref q_t_scaled, .ref q_t_rowFactors, .ref q_t_columnFactors, .ref q_t_rest, .ref q_t_diagonals, .ref q_t_weights])), (q_t_z, .inl (G.2 0, 50, .inl t_z)), (q_t_order, .inl (G.2 0, 7, .inl t_order))] sz)) 0 0 (va_A [(q_t, .inr (9, [.ref q_t_z, .ref q_t_old, .ref q_t_past, .int t_states, .ref q_t_kept, .int t_isKept, .ref q_t_text, .int t_length, .ref q_t_order, .ref q_t_told, .int t_spot, .int t_toldRows, .ref q_t_rowsTaken, .ref q_t_columnsTaken, .ref q_t_ways, .ref q_t_scaled, .ref q_t_rowFactors, .ref q_t_columnFactors, .ref q_t_rest, .ref q_t_diagonals, .ref q_t_weights])), (q_t_z, .inl (G.2 0, 50, .inl t_z)), (q_t_order, .inl (G.2 0, 7, .inl t_order))] sz) := by
  refine Met.ofW (cc := cX10_wholeDiagonal) (maxL := 5) (ret := (some .int)) (by decide) rfl ?_
  intro p e s m args below meth c s₁ B hml hv
  obtain ⟨rfl, hsz, hP, hK, hD0⟩ := hv
  subst hsz
  have hD := hD0.self (sz := s.heap.size)
  generalize hAe : va_A [(q_t, .inr (9, [.ref q_t_z, .ref q_t_old, .ref q_t_past, .int t_states, .ref q_t_kept, .int t_isKept, .ref q_t_text, .int t_length, .ref q_t_order, .ref q_t_told, .int t_spot, .int t_toldRows, .ref q_t_rowsTaken, .ref q_t_columnsTaken, .ref q_t_ways, .ref q_t_scaled, .ref q_t_rowFactors, .ref q_t_columnFactors, .ref q_t_rest, .ref q_t_diagonals, .ref q_t_weights])), (q_t_z, .inl (G.2 0, 50, .inl t_z)), (q_t_order, .inl (G.2 0, 7, .inl t_order))] s.heap.size = A at hD ⊢
  have hA : ∀ q : Nat, s.heap.size ≤ q → A q := fun q h => by rw [← hAe]; exact Or.inr h
  have hl := lv_entry ([.ref q_t, .int a1]) (n := 5) (Nat.le_of_ble_eq_true rfl)
  rw [lg_entry_eq]
  refine k_X10_wholeDiagonal ⟨B.exec, B.bytes, hml, findClass_of_methodNamed B.named, atoms_spec (ws := wsX10_wholeDiagonal) B.pre⟩ G hK hA q_t q_t_z q_t_old q_t_past q_t_kept q_t_text q_t_order q_t_told q_t_rowsTaken q_t_columnsTaken q_t_ways q_t_scaled q_t_rowFactors q_t_columnFactors q_t_rest q_t_diagonals q_t_weights _ _ _ _ _ _ _ _ _ _ h ?_ _ _ _ hP hD va_S.rf hl
  intro H locs ls pc hd hP hD hS
  exact W.iret B.exec B.bytes B.returns (fun t ht hW => ⟨⟨r, (), rfl, rfl, by rw [ht]; exact hP, hD⟩, hS.F ht⟩) hS.2.2 hd B.notSynchronized
set_option maxRecDepth 20000 in
theorem wd_X10_diagonalsThrough_1 : Cond.constant RX10 92 (-2000000001) ∈ wsX10_diagonalsThrough := List.mem_of_getElem? (i := 1) (by decide +kernel)
set_option maxRecDepth 20000 in
theorem wd_X10_diagonalsThrough_2 : Cond.fieldLink RX10 7 "PermanentDeskModel" "z" "[I" ∈ wsX10_diagonalsThrough := List.mem_of_getElem? (i := 2) (by decide +kernel)
set_option maxRecDepth 20000 in
theorem wi_X10_diagonalsThrough_X10 : ∀ w ∈ u_ws RX10 TX10 21, w ∈ wsX10_diagonalsThrough := by decide +kernel
set_option maxRecDepth 20000 in
theorem wd_X10_diagonalsThrough_3 : Cond.fieldLink RX10 25 "PermanentDeskModel" "order" "[I" ∈ wsX10_diagonalsThrough := List.mem_of_getElem? (i := 3) (by decide +kernel)
def f_X10_diagonalsThrough_L1 (x1 : Int32) (x2 : Int32) (t_z : Nat → Int32) : (Int32 × Int32 × (Nat → Int32)) → Option ((Int32 × Int32 × (Nat → Int32)) ⊕ (Int32 × (Nat → Int32)))
  | (x3, x4, t_order) =>
    if x4 = 0 then
      some (.inr (x3, t_order))
    else
      gd (okI x1 7) (
      Option.bind (
        if (t_order x1.toNatClampNeg) = x2 then
          (f_X10_isWhole__a1_t_z t_z t_order).bind (fun r_14 =>
          if r_14 = 0 then
            some (0 : Int32)
          else
            some (1 : Int32))
        else
          some (0 : Int32)) (fun y_13 =>
      pl ((x3 + y_13) : Int32) (fun x3_17 =>
      gd (okI (49 : Int32) 50) (
      (f_X10_nextOrder t_order (t_z (49 : Int32).toNatClampNeg)).bind (fun (r_20, t_order_19) =>
      some (.inl (x3_17, r_20, t_order_19)))))))
def f_X10_diagonalsThrough (t_z : Nat → Int32) (t_order : Nat → Int32) (a1 : Int32) (a2 : Int32) : Option (Int32 × (Nat → Int32)) :=
  (f_X10_isLine t_z a1).bind (fun r_1 =>
  if r_1 = 0 then
    some ((-2000000001 : Int32), t_order)
  else
    (f_X10_isLine t_z a2).bind (fun r_4 =>
    if r_4 = 0 then
      some ((-2000000001 : Int32), t_order)
    else
      gd (okI (49 : Int32) 50) (
      (f_X10_firstOrder t_order (t_z (49 : Int32).toNatClampNeg)).bind (fun t_order_8 =>
      (lpN (f_X10_diagonalsThrough_L1 a1 a2 t_z) FU ((0 : Int32), (1 : Int32), t_order_8)).bind (fun (x3_22, t_order_23) =>
      some (x3_22, t_order_23))))))
set_option maxHeartbeats 4000000 in
set_option maxRecDepth 100000 in
theorem l_X10_diagonalsThrough_1 {p : Program} {l : Launch} {e : Env} {s : State} {m : MethodId} {args : Array Value} {below : List Frame} {meth : Method} {c : Code} {Q : State → Prop} {A0 : Nat → Prop} {H0 : Heap} (C : CallFix p m c cX10_diagonalsThrough 5 s args wsX10_diagonalsThrough RX10) (G : GT) (hK : gK G s) (hA : ∀ q : Nat, H0.size ≤ q → A0 q) (q_t q_t_z q_t_old q_t_past q_t_kept q_t_text q_t_order q_t_told q_t_rowsTaken q_t_columnsTaken q_t_ways q_t_scaled q_t_rowFactors q_t_columnFactors q_t_rest q_t_diagonals q_t_weights : Nat) (x1 : Int32) (x2 : Int32) (t_states : Int32) (t_isKept : Int32) (t_length : Int32) (t_spot : Int32) (t_toldRows : Int32) (t_z : Nat → Int32) (E_x3 : Int32) (E_t_order : Nat → Int32) (K : ∀ (H : Heap) (locs : List Loc) (ls : Array Slot), va_P G.1 vwCl [(q_t, .inr (9, [.ref q_t_z, .ref q_t_old, .ref q_t_past, .int t_states, .ref q_t_kept, .int t_isKept, .ref q_t_text, .int t_length, .ref q_t_order, .ref q_t_told, .int t_spot, .int t_toldRows, .ref q_t_rowsTaken, .ref q_t_columnsTaken, .ref q_t_ways, .ref q_t_scaled, .ref q_t_rowFactors, .ref q_t_columnFactors, .ref q_t_rest, .ref q_t_diagonals, .ref q_t_weights])), (q_t_z, .inl (G.2 0, 50, .inl t_z)), (q_t_order, .inl (G.2 0, 7, .inl E_t_order))] H → va_D A0 [(q_t, .inr (9, [.ref q_t_z, .ref q_t_old, .ref q_t_past, .int t_states, .ref q_t_kept, .int t_isKept, .ref q_t_text, .int t_length, .ref q_t_order, .ref q_t_told, .int t_spot, .int t_toldRows, .ref q_t_rowsTaken, .ref q_t_columnsTaken, .ref q_t_ways, .ref q_t_scaled, .ref q_t_rowFactors, .ref q_t_columnFactors, .ref q_t_rest, .ref q_t_diagonals, .ref q_t_weights])), (q_t_z, .inl (G.2 0, 50, .inl t_z)), (q_t_order, .inl (G.2 0, 7, .inl E_t_order))] → va_S A0 H0 H locs → lv_has ls 5 [(3, .int E_x3)] → W p l e ({ frames := 2, cells := 0, slots := 0, locals := 48 } : Room) s m args below meth c H locs 0 0 Q (F0 m 85 ls [])) : ∀ (n : Nat) (x3 : Int32) (x4 : Int32) (t_order : Nat → Int32), lpN (f_X10_diagonalsThrough_L1 x1 x2 t_z) n (x3, x4, t_order) = some (E_x3, E_t_order) → ∀ (H : Heap) (locs : List Loc) (ls : Array Slot), va_P G.1 vwCl [(q_t, .inr (9, [.ref q_t_z, .ref q_t_old, .ref q_t_past, .int t_states, .ref q_t_kept, .int t_isKept, .ref q_t_text, .int t_length, .ref q_t_order, .ref q_t_told, .int t_spot, .int t_toldRows, .ref q_t_rowsTaken, .ref q_t_columnsTaken, .ref q_t_ways, .ref q_t_scaled, .ref q_t_rowFactors, .ref q_t_columnFactors, .ref q_t_rest, .ref q_t_diagonals, .ref q_t_weights])), (q_t_z, .inl (G.2 0, 50, .inl t_z)), (q_t_order, .inl (G.2 0, 7, .inl t_order))] H → va_D A0 [(q_t, .inr (9, [.ref q_t_z, .ref q_t_old, .ref q_t_past, .int t_states, .ref q_t_kept, .int t_isKept, .ref q_t_text, .int t_length, .ref q_t_order, .ref q_t_told, .int t_spot, .int t_toldRows, .ref q_t_rowsTaken, .ref q_t_columnsTaken, .ref q_t_ways, .ref q_t_scaled, .ref q_t_rowFactors, .ref q_t_columnFactors, .ref q_t_rest, .ref q_t_diagonals, .ref q_t_weights])), (q_t_z, .inl (G.2 0, 50, .inl t_z)), (q_t_order, .inl (G.2 0, 7, .inl t_order))] → va_S A0 H0 H locs → lv_has ls 5 [(0, .ref q_t), (1, .int x1), (2, .int x2), (3, .int x3), (4, .int x4)] → W p l e ({ frames := 2, cells := 0, slots := 0, locals := 48 } : Room) s m args below meth c H locs 0 0 Q (F0 m 35 ls []) := by
  obtain ⟨hx, hb, hml, hown, hts⟩ := C
  intro n
  induction n with
  | zero => intro x3 x4 t_order h; exact absurd h (fun h => lp_0 h)
  | succ n ih =>
    intro x3 x4 t_order h H locs ls hP hD hS hl
    obtain ⟨y, h, hk⟩ := lp_s h
    rw [f_X10_diagonalsThrough_L1] at h
    refine lv_iload hx hb dX10_diagonalsThrough_35 (lv_at hl 4 rfl) ?_
    refine lv_if_eq (tgt := 85) hx hb dX10_diagonalsThrough_37 (by decide) (fun c_10 => ?_) (fun c_10 => ?_)
    · replace h := it_t h c_10
      obtain rfl := sm1 h
      obtain ⟨rfl, rfl⟩ := sm2 hk
      exact K H locs ls hP hD hS (lv_sub hl [3] rfl)
    · replace h := it_f h c_10
      refine lv_iload_n hx hb dX10_diagonalsThrough_40 rfl (lv_at hl 3 rfl) ?_
      refine lv_aload_n hx hb dX10_diagonalsThrough_41 rfl (lv_at hl 0 rfl) ?_
      refine va_get (D := G.1) (ci := 9) (v := .ref q_t_order) (C := RX10) (T := TX10) (N := 21) hx hb hts wi_X10_diagonalsThrough_X10 hown hK hP 0 rfl rfl 8 (by decide) (hts _ wd_X10_diagonalsThrough_3) (fun _ h9 => h9) rfl dX10_diagonalsThrough_42 ?_
      refine lv_iload_n hx hb dX10_diagonalsThrough_45 rfl (lv_at hl 1 rfl) ?_
      obtain ⟨g_11, h⟩ := gd_ok h
      refine va_iald (D := G.1) hx hb hK hP 2 0 rfl rfl g_11 dX10_diagonalsThrough_46 ?_
      refine lv_iload_n hx hb dX10_diagonalsThrough_47 rfl (lv_at hl 2 rfl) ?_
      obtain ⟨y_13, hr, h⟩ := bd_ok h
      have J : ∀ (H : Heap) (locs : List Loc) (ls : Array Slot), va_P G.1 vwCl [(q_t, .inr (9, [.ref q_t_z, .ref q_t_old, .ref q_t_past, .int t_states, .ref q_t_kept, .int t_isKept, .ref q_t_text, .int t_length, .ref q_t_order, .ref q_t_told, .int t_spot, .int t_toldRows, .ref q_t_rowsTaken, .ref q_t_columnsTaken, .ref q_t_ways, .ref q_t_scaled, .ref q_t_rowFactors, .ref q_t_columnFactors, .ref q_t_rest, .ref q_t_diagonals, .ref q_t_weights])), (q_t_z, .inl (G.2 0, 50, .inl t_z)), (q_t_order, .inl (G.2 0, 7, .inl t_order))] H → va_D A0 [(q_t, .inr (9, [.ref q_t_z, .ref q_t_old, .ref q_t_past, .int t_states, .ref q_t_kept, .int t_isKept, .ref q_t_text, .int t_length, .ref q_t_order, .ref q_t_told, .int t_spot, .int t_toldRows, .ref q_t_rowsTaken, .ref q_t_columnsTaken, .ref q_t_ways, .ref q_t_scaled, .ref q_t_rowFactors, .ref q_t_columnFactors, .ref q_t_rest, .ref q_t_diagonals, .ref q_t_weights])), (q_t_z, .inl (G.2 0, 50, .inl t_z)), (q_t_order, .inl (G.2 0, 7, .inl t_order))] → va_S A0 H0 H locs → lv_has ls 5 [(0, .ref q_t), (1, .int x1), (2, .int x2)] → W p l e ({ frames := 2, cells := 0, slots := 0, locals := 48 } : Room) s m args below meth c H locs 0 0 Q (F0 m 67 ls [.int y_13, .int x3]) := by
        intro H locs ls hP hD hS hl
        refine lv_iadd hx hb dX10_diagonalsThrough_67 ?_
        refine lv_topi (fun x3_17 ex3_17 => ?_)
        replace h := pl_v h ex3_17
        refine lv_istore_n (lv' := [(3, .int x3_17), (0, .ref q_t), (1, .int x1), (2, .int x2)]) hx hb dX10_diagonalsThrough_68 rfl hl (by decide) rfl (fun ls hl => ?_)
        refine lv_aload_n hx hb dX10_diagonalsThrough_69 rfl (lv_at hl 1 rfl) ?_
        refine lv_aload_n hx hb dX10_diagonalsThrough_70 rfl (lv_at hl 1 rfl) ?_
        refine va_get (D := G.1) (ci := 9) (v := .ref q_t_z) (C := RX10) (T := TX10) (N := 21) hx hb hts wi_X10_diagonalsThrough_X10 hown hK hP 0 rfl rfl 0 (by decide) (hts _ wd_X10_diagonalsThrough_2) (fun _ h9 => h9) rfl dX10_diagonalsThrough_71 ?_
        refine lv_bipush (v := 49) hx hb dX10_diagonalsThrough_74 (by decide) ?_
        obtain ⟨g_18, h⟩ := gd_ok h
        refine va_iald (D := G.1) hx hb hK hP 1 0 rfl rfl g_18 dX10_diagonalsThrough_76 ?_
        obtain ⟨⟨r_20, t_order_19⟩, hf_21, h⟩ := bd_ok h
        refine ck_Vi (rest := []) (wn := [(q_t, .inr (9, [.ref q_t_z, .ref q_t_old, .ref q_t_past, .int t_states, .ref q_t_kept, .int t_isKept, .ref q_t_text, .int t_length, .ref q_t_order, .ref q_t_told, .int t_spot, .int t_toldRows, .ref q_t_rowsTaken, .ref q_t_columnsTaken, .ref q_t_ways, .ref q_t_scaled, .ref q_t_rowFactors, .ref q_t_columnFactors, .ref q_t_rest, .ref q_t_diagonals, .ref q_t_weights])), (q_t_z, .inl (G.2 0, 50, .inl t_z)), (q_t_order, .inl (G.2 0, 7, .inl t_order_19))]) ⟨hx, hb, hml, hown, hts⟩ hK hP hD hS hA [0, 2] [1] [1, 0, 2] (c_X10_nextOrder l G q_t q_t_z q_t_old q_t_past q_t_kept q_t_text q_t_order q_t_told q_t_rowsTaken q_t_columnsTaken q_t_ways q_t_scaled q_t_rowFactors q_t_columnFactors q_t_rest q_t_diagonals q_t_weights _ t_states t_isKept t_length t_spot t_toldRows t_order (t_z (49 : Int32).toNatClampNeg) _ _ hf_21) (cwV 1 hts gX10_diagonalsThrough_X10_nextOrder rfl rfl rfl (by decide +kernel) ⟨Nat.le_of_ble_eq_true rfl, Nat.le_of_ble_eq_true rfl⟩) rfl rfl rfl rfl rfl rfl (by decide) rfl rfl rfl hl.1 rfl (Nat.le_of_ble_eq_true rfl) dX10_diagonalsThrough_77 ⟨Nat.zero_le _, Nat.zero_le _⟩ (fun H locs hP hD hS => ?_)
        refine lv_istore (lv' := [(4, .int r_20), (3, .int x3_17), (0, .ref q_t), (1, .int x1), (2, .int x2)]) hx hb dX10_diagonalsThrough_80 hl (by decide) rfl (fun ls hl => ?_)
        refine lv_goto (tgt := 35) hx hb dX10_diagonalsThrough_82 (by decide) ?_
        obtain rfl := sm1 h
        exact ih x3_17 r_20 t_order_19 hk H locs ls hP hD hS (lv_sub hl [2, 3, 4, 1, 0] rfl)
      replace h := hr
      clear hr
      refine lv_icmp_ne (tgt := 66) hx hb dX10_diagonalsThrough_48 (by decide) (fun c_12 => ?_) (fun c_12 => ?_)
      · replace h := it_f h c_12
        refine lv_iconst (v := 0) hx hb dX10_diagonalsThrough_66 (by decide) ?_
        obtain rfl := sm1 h
        exact J H locs ls hP hD hS (lv_sub hl [0, 1, 2] rfl)
      · replace h := it_t h c_12
        refine lv_aload_n hx hb dX10_diagonalsThrough_51 rfl (lv_at hl 0 rfl) ?_
        refine lv_aload_n hx hb dX10_diagonalsThrough_52 rfl (lv_at hl 0 rfl) ?_
        refine va_get (D := G.1) (ci := 9) (v := .ref q_t_z) (C := RX10) (T := TX10) (N := 21) hx hb hts wi_X10_diagonalsThrough_X10 hown hK hP 0 rfl rfl 0 (by decide) (hts _ wd_X10_diagonalsThrough_2) (fun _ h9 => h9) rfl dX10_diagonalsThrough_53 ?_
        obtain ⟨r_14, hf_15, h⟩ := bd_ok h
        refine ck_Vi (rest := [.int x3]) (wn := [(q_t, .inr (9, [.ref q_t_z, .ref q_t_old, .ref q_t_past, .int t_states, .ref q_t_kept, .int t_isKept, .ref q_t_text, .int t_length, .ref q_t_order, .ref q_t_told, .int t_spot, .int t_toldRows, .ref q_t_rowsTaken, .ref q_t_columnsTaken, .ref q_t_ways, .ref q_t_scaled, .ref q_t_rowFactors, .ref q_t_columnFactors, .ref q_t_rest, .ref q_t_diagonals, .ref q_t_weights])), (q_t_z, .inl (G.2 0, 50, .inl t_z)), (q_t_order, .inl (G.2 0, 7, .inl t_order))]) ⟨hx, hb, hml, hown, hts⟩ hK hP hD hS hA [0, 1, 2] [] [0, 1, 2] (c_X10_isWhole__a1_t_z l G q_t q_t_z q_t_old q_t_past q_t_kept q_t_text q_t_order q_t_told q_t_rowsTaken q_t_columnsTaken q_t_ways q_t_scaled q_t_rowFactors q_t_columnFactors q_t_rest q_t_diagonals q_t_weights _ t_states t_isKept t_length t_spot t_toldRows t_z t_order _ hf_15) (cwV 1 hts gX10_diagonalsThrough_X10_isWhole rfl rfl rfl (by decide +kernel) ⟨Nat.le_of_ble_eq_true rfl, Nat.le_of_ble_eq_true rfl⟩) rfl rfl rfl rfl rfl rfl (by decide) rfl rfl rfl hl.1 rfl (Nat.le_of_ble_eq_true rfl) dX10_diagonalsThrough_56 ⟨Nat.zero_le _, Nat.zero_le _⟩ (fun H locs hP hD hS => ?_)
        refine lv_if_eq (tgt := 66) hx hb dX10_diagonalsThrough_59 (by decide) (fun c_16 => ?_) (fun c_16 => ?_)
        · replace h := it_t h c_16
          refine lv_iconst (v := 0) hx hb dX10_diagonalsThrough_66 (by decide) ?_
          obtain rfl := sm1 h
          exact J H locs ls hP hD hS (lv_sub hl [0, 1, 2] rfl)
        · replace h := it_f h c_16
          refine lv_iconst (v := 1) hx hb dX10_diagonalsThrough_62 (by decide) ?_
          refine lv_goto (tgt := 67) hx hb dX10_diagonalsThrough_63 (by decide) ?_
          obtain rfl := sm1 h
          exact J H locs ls hP hD hS (lv_sub hl [0, 1, 2] rfl)
set_option maxHeartbeats 4000000 in
set_option maxRecDepth 100000 in
theorem k_X10_diagonalsThrough {p : Program} {l : Launch} {e : Env} {s : State} {m : MethodId} {args : Array Value} {below : List Frame} {meth : Method} {c : Code} {Q : State → Prop} {A0 : Nat → Prop} {H0 : Heap} (C : CallFix p m c cX10_diagonalsThrough 5 s args wsX10_diagonalsThrough RX10) (G : GT) (hK : gK G s) (hA : ∀ q : Nat, H0.size ≤ q → A0 q) (q_t q_t_z q_t_old q_t_past q_t_kept q_t_text q_t_order q_t_told q_t_rowsTaken q_t_columnsTaken q_t_ways q_t_scaled q_t_rowFactors q_t_columnFactors q_t_rest q_t_diagonals q_t_weights : Nat) (t_states : Int32) (t_isKept : Int32) (t_length : Int32) (t_spot : Int32) (t_toldRows : Int32) (t_z : Nat → Int32) (t_order : Nat → Int32) (a1 : Int32) (a2 : Int32) (r : Int32) (o_t_order : Nat → Int32) (h : f_X10_diagonalsThrough t_z t_order a1 a2 = some (r, o_t_order)) (KR : ∀ (H : Heap) (locs : List Loc) (ls : Array Slot) (pc : Nat), decode cX10_diagonalsThrough pc = .ok (.ireturn, 1) → va_P G.1 vwCl [(q_t, .inr (9, [.ref q_t_z, .ref q_t_old, .ref q_t_past, .int t_states, .ref q_t_kept, .int t_isKept, .ref q_t_text, .int t_length, .ref q_t_order, .ref q_t_told, .int t_spot, .int t_toldRows, .ref q_t_rowsTaken, .ref q_t_columnsTaken, .ref q_t_ways, .ref q_t_scaled, .ref q_t_rowFactors, .ref q_t_columnFactors, .ref q_t_rest, .ref q_t_diagonals, .ref q_t_weights])), (q_t_z, .inl (G.2 0, 50, .inl t_z)), (q_t_order, .inl (G.2 0, 7, .inl o_t_order))] H → va_D A0 [(q_t, .inr (9, [.ref q_t_z, .ref q_t_old, .ref q_t_past, .int t_states, .ref q_t_kept, .int t_isKept, .ref q_t_text, .int t_length, .ref q_t_order, .ref q_t_told, .int t_spot, .int t_toldRows, .ref q_t_rowsTaken, .ref q_t_columnsTaken, .ref q_t_ways, .ref q_t_scaled, .ref q_t_rowFactors, .ref q_t_columnFactors, .ref q_t_rest, .ref q_t_diagonals, .ref q_t_weights])), (q_t_z, .inl (G.2 0, 50, .inl t_z)), (q_t_order, .inl (G.2 0, 7, .inl o_t_order))] → va_S A0 H0 H locs → W p l e ({ frames := 2, cells := 0, slots := 0, locals := 48 } : Room) s m args below meth c H locs 0 0 Q (F0 m pc ls [.int r])) : ∀ (H : Heap) (locs : List Loc) (ls : Array Slot), va_P G.1 vwCl [(q_t, .inr (9, [.ref q_t_z, .ref q_t_old, .ref q_t_past, .int t_states, .ref q_t_kept, .int t_isKept, .ref q_t_text, .int t_length, .ref q_t_order, .ref q_t_told, .int t_spot, .int t_toldRows, .ref q_t_rowsTaken, .ref q_t_columnsTaken, .ref q_t_ways, .ref q_t_scaled, .ref q_t_rowFactors, .ref q_t_columnFactors, .ref q_t_rest, .ref q_t_diagonals, .ref q_t_weights])), (q_t_z, .inl (G.2 0, 50, .inl t_z)), (q_t_order, .inl (G.2 0, 7, .inl t_order))] H → va_D A0 [(q_t, .inr (9, [.ref q_t_z, .ref q_t_old, .ref q_t_past, .int t_states, .ref q_t_kept, .int t_isKept, .ref q_t_text, .int t_length, .ref q_t_order, .ref q_t_told, .int t_spot, .int t_toldRows, .ref q_t_rowsTaken, .ref q_t_columnsTaken, .ref q_t_ways, .ref q_t_scaled, .ref q_t_rowFactors, .ref q_t_columnFactors, .ref q_t_rest, .ref q_t_diagonals, .ref q_t_weights])), (q_t_z, .inl (G.2 0, 50, .inl t_z)), (q_t_order, .inl (G.2 0, 7, .inl t_order))] → va_S A0 H0 H locs → lv_has ls 5 [(0, .ref q_t), (1, .int a1), (2, .int a2)] → W p l e ({ frames := 2, cells := 0, slots := 0, locals := 48 } : Room) s m args below meth c H locs 0 0 Q (F0 m 0 ls []) := by
  obtain ⟨hx, hb, hml, hown, hts⟩ := C
  intro H locs ls hP hD hS hl
  rw [f_X10_diagonalsThrough] at h
  refine lv_aload_n hx hb dX10_diagonalsThrough_0 rfl (lv_at hl 0 rfl) ?_
  refine lv_iload_n hx hb dX10_diagonalsThrough_1 rfl (lv_at hl 1 rfl) ?_
  obtain ⟨r_1, hf_2, h⟩ := bd_ok h
  refine ck_Vi (rest := []) (wn := [(q_t, .inr (9, [.ref q_t_z, .ref q_t_old, .ref q_t_past, .int t_states, .ref q_t_kept, .int t_isKept, .ref q_t_text, .int t_length, .ref q_t_order, .ref q_t_told, .int t_spot, .int t_toldRows, .ref q_t_rowsTaken, .ref q_t_columnsTaken, .ref q_t_ways, .ref q_t_scaled, .ref q_t_rowFactors, .ref q_t_columnFactors, .ref q_t_rest, .ref q_t_diagonals, .ref q_t_weights])), (q_t_z, .inl (G.2 0, 50, .inl t_z)), (q_t_order, .inl (G.2 0, 7, .inl t_order))]) ⟨hx, hb, hml, hown, hts⟩ hK hP hD hS hA [0, 1] [2] [1, 2, 0] (c_X10_isLine l G q_t q_t_z q_t_old q_t_past q_t_kept q_t_text q_t_order q_t_told q_t_rowsTaken q_t_columnsTaken q_t_ways q_t_scaled q_t_rowFactors q_t_columnFactors q_t_rest q_t_diagonals q_t_weights _ t_states t_isKept t_length t_spot t_toldRows t_z a1 _ hf_2) (cwV 1 hts gX10_diagonalsThrough_X10_isLine rfl rfl rfl (by decide +kernel) ⟨Nat.le_of_ble_eq_true rfl, Nat.le_of_ble_eq_true rfl⟩) rfl rfl rfl rfl rfl rfl (by decide) rfl rfl rfl hl.1 rfl (Nat.le_of_ble_eq_true rfl) dX10_diagonalsThrough_2 ⟨Nat.zero_le _, Nat.zero_le _⟩ (fun H locs hP hD hS => ?_)
  refine lv_if_eq (tgt := 16) hx hb dX10_diagonalsThrough_5 (by decide) (fun c_3 => ?_) (fun c_3 => ?_)
  · replace h := it_t h c_3
    refine lv_ldc (v := -2000000001) hx hb hown (hts _ wd_X10_diagonalsThrough_1) dX10_diagonalsThrough_16 ?_
    obtain ⟨rfl, rfl⟩ := sm2 h
    exact KR H locs ls 18 dX10_diagonalsThrough_18 hP hD hS
  · replace h := it_f h c_3
    refine lv_aload_n hx hb dX10_diagonalsThrough_8 rfl (lv_at hl 0 rfl) ?_
    refine lv_iload_n hx hb dX10_diagonalsThrough_9 rfl (lv_at hl 2 rfl) ?_
    obtain ⟨r_4, hf_5, h⟩ := bd_ok h
    refine ck_Vi (rest := []) (wn := [(q_t, .inr (9, [.ref q_t_z, .ref q_t_old, .ref q_t_past, .int t_states, .ref q_t_kept, .int t_isKept, .ref q_t_text, .int t_length, .ref q_t_order, .ref q_t_told, .int t_spot, .int t_toldRows, .ref q_t_rowsTaken, .ref q_t_columnsTaken, .ref q_t_ways, .ref q_t_scaled, .ref q_t_rowFactors, .ref q_t_columnFactors, .ref q_t_rest, .ref q_t_diagonals, .ref q_t_weights])), (q_t_z, .inl (G.2 0, 50, .inl t_z)), (q_t_order, .inl (G.2 0, 7, .inl t_order))]) ⟨hx, hb, hml, hown, hts⟩ hK hP hD hS hA [0, 1] [2] [1, 2, 0] (c_X10_isLine l G q_t q_t_z q_t_old q_t_past q_t_kept q_t_text q_t_order q_t_told q_t_rowsTaken q_t_columnsTaken q_t_ways q_t_scaled q_t_rowFactors q_t_columnFactors q_t_rest q_t_diagonals q_t_weights _ t_states t_isKept t_length t_spot t_toldRows t_z a2 _ hf_5) (cwV 1 hts gX10_diagonalsThrough_X10_isLine rfl rfl rfl (by decide +kernel) ⟨Nat.le_of_ble_eq_true rfl, Nat.le_of_ble_eq_true rfl⟩) rfl rfl rfl rfl rfl rfl (by decide) rfl rfl rfl hl.1 rfl (Nat.le_of_ble_eq_true rfl) dX10_diagonalsThrough_10 ⟨Nat.zero_le _, Nat.zero_le _⟩ (fun H locs hP hD hS => ?_)
    refine lv_if_ne (tgt := 19) hx hb dX10_diagonalsThrough_13 (by decide) (fun c_6 => ?_) (fun c_6 => ?_)
    · replace h := it_f h c_6
      refine lv_iconst (v := 0) hx hb dX10_diagonalsThrough_19 (by decide) ?_
      refine lv_istore_n (lv' := [(3, .int (0 : Int32)), (0, .ref q_t), (1, .int a1), (2, .int a2)]) hx hb dX10_diagonalsThrough_20 rfl hl (by decide) rfl (fun ls hl => ?_)
      refine lv_aload_n hx hb dX10_diagonalsThrough_21 rfl (lv_at hl 1 rfl) ?_
      refine lv_aload_n hx hb dX10_diagonalsThrough_22 rfl (lv_at hl 1 rfl) ?_
      refine va_get (D := G.1) (ci := 9) (v := .ref q_t_z) (C := RX10) (T := TX10) (N := 21) hx hb hts wi_X10_diagonalsThrough_X10 hown hK hP 0 rfl rfl 0 (by decide) (hts _ wd_X10_diagonalsThrough_2) (fun _ h9 => h9) rfl dX10_diagonalsThrough_23 ?_
      refine lv_bipush (v := 49) hx hb dX10_diagonalsThrough_26 (by decide) ?_
      obtain ⟨g_7, h⟩ := gd_ok h
      refine va_iald (D := G.1) hx hb hK hP 1 0 rfl rfl g_7 dX10_diagonalsThrough_28 ?_
      obtain ⟨t_order_8, hf_9, h⟩ := bd_ok h
      refine ck_Vv (rest := []) (wn := [(q_t, .inr (9, [.ref q_t_z, .ref q_t_old, .ref q_t_past, .int t_states, .ref q_t_kept, .int t_isKept, .ref q_t_text, .int t_length, .ref q_t_order, .ref q_t_told, .int t_spot, .int t_toldRows, .ref q_t_rowsTaken, .ref q_t_columnsTaken, .ref q_t_ways, .ref q_t_scaled, .ref q_t_rowFactors, .ref q_t_columnFactors, .ref q_t_rest, .ref q_t_diagonals, .ref q_t_weights])), (q_t_z, .inl (G.2 0, 50, .inl t_z)), (q_t_order, .inl (G.2 0, 7, .inl t_order_8))]) ⟨hx, hb, hml, hown, hts⟩ hK hP hD hS hA [0, 2] [1] [1, 0, 2] (c_X10_firstOrder l G q_t q_t_z q_t_old q_t_past q_t_kept q_t_text q_t_order q_t_told q_t_rowsTaken q_t_columnsTaken q_t_ways q_t_scaled q_t_rowFactors q_t_columnFactors q_t_rest q_t_diagonals q_t_weights _ t_states t_isKept t_length t_spot t_toldRows t_order (t_z (49 : Int32).toNatClampNeg) _ hf_9) (cwV 1 hts gX10_diagonalsThrough_X10_firstOrder rfl rfl rfl (by decide +kernel) ⟨Nat.le_of_ble_eq_true rfl, Nat.le_of_ble_eq_true rfl⟩) rfl rfl rfl rfl rfl rfl (by decide) rfl rfl rfl hl.1 rfl (Nat.le_of_ble_eq_true rfl) dX10_diagonalsThrough_29 ⟨Nat.zero_le _, Nat.zero_le _⟩ (fun H locs hP hD hS => ?_)
      refine lv_iconst (v := 1) hx hb dX10_diagonalsThrough_32 (by decide) ?_
      refine lv_istore (lv' := [(4, .int (1 : Int32)), (3, .int (0 : Int32)), (0, .ref q_t), (1, .int a1), (2, .int a2)]) hx hb dX10_diagonalsThrough_33 hl (by decide) rfl (fun ls hl => ?_)
      obtain ⟨⟨x3_22, t_order_23⟩, hz_25, h⟩ := bd_ok h
      refine l_X10_diagonalsThrough_1 ⟨hx, hb, hml, hown, hts⟩ G hK hA q_t q_t_z q_t_old q_t_past q_t_kept q_t_text q_t_order q_t_told q_t_rowsTaken q_t_columnsTaken q_t_ways q_t_scaled q_t_rowFactors q_t_columnFactors q_t_rest q_t_diagonals q_t_weights a1 a2 t_states t_isKept t_length t_spot t_toldRows t_z x3_22 t_order_23 ?_ FU (0 : Int32) (1 : Int32) t_order_8 hz_25 H locs ls hP hD hS (lv_sub hl [2, 3, 4, 1, 0] rfl)
      intro H locs ls hP hD hS hl
      refine lv_iload_n hx hb dX10_diagonalsThrough_85 rfl (lv_at hl 0 rfl) ?_
      obtain ⟨rfl, rfl⟩ := sm2 h
      exact KR H locs ls 86 dX10_diagonalsThrough_86 hP hD hS
    · replace h := it_t h c_6
      refine lv_ldc (v := -2000000001) hx hb hown (hts _ wd_X10_diagonalsThrough_1) dX10_diagonalsThrough_16 ?_
      obtain ⟨rfl, rfl⟩ := sm2 h
      exact KR H locs ls 18 dX10_diagonalsThrough_18 hP hD hS
set_option maxHeartbeats 4000000 in
set_option maxRecDepth 100000 in
theorem c_X10_diagonalsThrough (l : Launch) (G : GT) (q_t q_t_z q_t_old q_t_past q_t_kept q_t_text q_t_order q_t_told q_t_rowsTaken q_t_columnsTaken q_t_ways q_t_scaled q_t_rowFactors q_t_columnFactors q_t_rest q_t_diagonals q_t_weights : Nat) (sz : Nat) (t_states : Int32) (t_isKept : Int32) (t_length : Int32) (t_spot : Int32) (t_toldRows : Int32) (t_z : Nat → Int32) (t_order : Nat → Int32) (a1 : Int32) (a2 : Int32) (r : Int32) (o_t_order : Nat → Int32) (h : f_X10_diagonalsThrough t_z t_order a1 a2 = some (r, o_t_order)) : Met l yX10_diagonalsThrough wsX10_diagonalsThrough ({ frames := 2, cells := 0, slots := 0, locals := 48 } : Room) (va_Pc [.ref q_t, .int a1, .int a2] (pcW G [(q_t, .inr (9, [.ref q_t_z, .ref q_t_old, .ref q_t_past, .int t_states, .ref q_t_kept, .int t_isKept, .ref q_t_text, .int t_length, .ref q_t_order, .ref q_t_told, .int t_spot, .int t_toldRows, .ref q_t_rowsTaken, .ref q_t_columnsTaken, .ref q_t_ways, .ref q_t_scaled, .ref q_t_rowFactors, .ref q_t_columnFactors, .ref q_t_rest, .ref q_t_diagonals, .ref q_t_weights])), (q_t_z, .inl (G.2 0, 50, .inl t_z)), (q_t_order, .inl (G.2 0, 7, .inl t_order))] sz)) (va_Qi (fun r9 (_ : Unit) => r9 = r) (fun _ t => atW G (va_A [(q_t, .inr (9, [.ref q_t_z, .ref q_t_old, .ref q_t_past, .int t_states, .ref q_t_kept, .int t_isKept, .ref q_t_text, .int t_length, .ref q_t_order, .ref q_t_told, .int t_spot, .int t_toldRows, .ref q_t_rowsTaken, .ref q_t_columnsTaken, .ref q_t_ways, .ref q_t_scaled, .ref q_t_rowFactors, .ref q_t_columnFactors, .ref q_t_rest, .ref q_t_diagonals, .ref q_t_weights])), (q_t_z, .inl (G.2 0, 50, .inl t_z)), (q_t_order, .inl (G.2 0, 7, .inl t_order))] sz) [(q_t, .inr (9, [.ref q_t_z, .ref q_t_old, .ref q_t_past, .int t_states, .ref q_t_kept, .int t_isKept, .ref q_t_text, .int t_length, .ref q_t_order, .ref q_t_told, .int t_spot, .int t_toldRows, .ref q_t_rowsTaken, .ref q_t_columnsTaken, .ref q_t_ways, .ref q_t_scaled, .ref q_t_rowFactors, .ref q_t_columnFactors, .ref q_t_rest, .ref q_t_diagonals, .ref q_t_weights])), (q_t_z, .inl (G.2 0, 50, .inl t_z)), (q_t_order, .inl (G.2 0, 7, .inl o_t_order))] t) (va_A [(q_t, .inr (9, [.ref q_t_z, .ref q_t_old, .ref q_t_past, .int t_states, .ref q_t_kept, .int t_isKept, .ref q_t_text, .int t_length, .ref q_t_order, .ref q_t_told, .int t_spot, .int t_toldRows, .ref q_t_rowsTaken, .ref q_t_columnsTaken, .ref q_t_ways, .ref q_t_scaled, .ref q_t_rowFactors, .ref q_t_columnFactors, .ref q_t_rest, .ref q_t_diagonals, .ref q_t_weights])), (q_t_z, .inl (G.2 0, 50, .inl t_z)), (q_t_order, .inl (G.2 0, 7, .inl t_order))] sz)) 0 0 (va_A [(q_t, .inr (9, [.ref q_t_z, .ref q_t_old, .ref q_t_past, .int t_states, .ref q_t_kept, .int t_isKept, .ref q_t_text, .int t_length, .ref q_t_order, .ref q_t_told, .int t_spot, .int t_toldRows, .ref q_t_rowsTaken, .ref q_t_columnsTaken, .ref q_t_ways, .ref q_t_scaled, .ref q_t_rowFactors, .ref q_t_columnFactors, .ref q_t_rest, .ref q_t_diagonals, .ref q_t_weights])), (q_t_z, .inl (G.2 0, 50, .inl t_z)), (q_t_order, .inl (G.2 0, 7, .inl t_order))] sz) := by
  refine Met.ofW (cc := cX10_diagonalsThrough) (maxL := 5) (ret := (some .int)) (by decide) rfl ?_
  intro p e s m args below meth c s₁ B hml hv
  obtain ⟨rfl, hsz, hP, hK, hD0⟩ := hv
  subst hsz
  have hD := hD0.self (sz := s.heap.size)
  generalize hAe : va_A [(q_t, .inr (9, [.ref q_t_z, .ref q_t_old, .ref q_t_past, .int t_states, .ref q_t_kept, .int t_isKept, .ref q_t_text, .int t_length, .ref q_t_order, .ref q_t_told, .int t_spot, .int t_toldRows, .ref q_t_rowsTaken, .ref q_t_columnsTaken, .ref q_t_ways, .ref q_t_scaled, .ref q_t_rowFactors, .ref q_t_columnFactors, .ref q_t_rest, .ref q_t_diagonals, .ref q_t_weights])), (q_t_z, .inl (G.2 0, 50, .inl t_z)), (q_t_order, .inl (G.2 0, 7, .inl t_order))] s.heap.size = A at hD ⊢
  have hA : ∀ q : Nat, s.heap.size ≤ q → A q := fun q h => by rw [← hAe]; exact Or.inr h
  have hl := lv_entry ([.ref q_t, .int a1, .int a2]) (n := 5) (Nat.le_of_ble_eq_true rfl)
  rw [lg_entry_eq]
  refine k_X10_diagonalsThrough ⟨B.exec, B.bytes, hml, findClass_of_methodNamed B.named, atoms_spec (ws := wsX10_diagonalsThrough) B.pre⟩ G hK hA q_t q_t_z q_t_old q_t_past q_t_kept q_t_text q_t_order q_t_told q_t_rowsTaken q_t_columnsTaken q_t_ways q_t_scaled q_t_rowFactors q_t_columnFactors q_t_rest q_t_diagonals q_t_weights _ _ _ _ _ _ _ _ _ _ _ h ?_ _ _ _ hP hD va_S.rf hl
  intro H locs ls pc hd hP hD hS
  exact W.iret B.exec B.bytes B.returns (fun t ht hW => ⟨⟨r, (), rfl, rfl, by rw [ht]; exact hP, hD⟩, hS.F ht⟩) hS.2.2 hd B.notSynchronized
set_option maxRecDepth 20000 in
theorem wd_X10_rooks_1 : Cond.fieldLink RX10 7 "PermanentDeskModel" "z" "[I" ∈ wsX10_rooks := List.mem_of_getElem? (i := 1) (by decide +kernel)
set_option maxRecDepth 20000 in
theorem wi_X10_rooks_X10 : ∀ w ∈ u_ws RX10 TX10 21, w ∈ wsX10_rooks := by decide +kernel
set_option maxRecDepth 20000 in
theorem wd_X10_rooks_2 : Cond.constant RX10 83 (-2000000002) ∈ wsX10_rooks := List.mem_of_getElem? (i := 2) (by decide +kernel)
def f_X10_rooks (t_z : Nat → Int32) (t_order : Nat → Int32) (t_rowsTaken : Nat → Int32) (t_columnsTaken : Nat → Int32) (a1 : Int32) : Option (Int32 × (Nat → Int32) × (Nat → Int32) × (Nat → Int32)) :=
  gd (okI (49 : Int32) 50) (
  (f_X10_in a1 (0 : Int32) (t_z (49 : Int32).toNatClampNeg)).bind (fun r_2 =>
  if r_2 = 0 then
    some ((-2000000002 : Int32), t_order, t_rowsTaken, t_columnsTaken)
  else
    (f_X10_sumOfAll t_z t_order t_rowsTaken t_columnsTaken a1 (1 : Int32)).bind (fun (r_8, t_order_5, t_rowsTaken_6, t_columnsTaken_7) =>
    some (r_8.toInt32, t_order_5, t_rowsTaken_6, t_columnsTaken_7))))
set_option maxHeartbeats 4000000 in
set_option maxRecDepth 100000 in
theorem k_X10_rooks {p : Program} {l : Launch} {e : Env} {s : State} {m : MethodId} {args : Array Value} {below : List Frame} {meth : Method} {c : Code} {Q : State → Prop} {A0 : Nat → Prop} {H0 : Heap} (C : CallFix p m c cX10_rooks 2 s args wsX10_rooks RX10) (G : GT) (hK : gK G s) (hA : ∀ q : Nat, H0.size ≤ q → A0 q) (q_t q_t_z q_t_old q_t_past q_t_kept q_t_text q_t_order q_t_told q_t_rowsTaken q_t_columnsTaken q_t_ways q_t_scaled q_t_rowFactors q_t_columnFactors q_t_rest q_t_diagonals q_t_weights : Nat) (t_states : Int32) (t_isKept : Int32) (t_length : Int32) (t_spot : Int32) (t_toldRows : Int32) (t_z : Nat → Int32) (t_order : Nat → Int32) (t_rowsTaken : Nat → Int32) (t_columnsTaken : Nat → Int32) (a1 : Int32) (r : Int32) (o_t_order : Nat → Int32) (o_t_rowsTaken : Nat → Int32) (o_t_columnsTaken : Nat → Int32) (h : f_X10_rooks t_z t_order t_rowsTaken t_columnsTaken a1 = some (r, o_t_order, o_t_rowsTaken, o_t_columnsTaken)) (KR : ∀ (H : Heap) (locs : List Loc) (ls : Array Slot) (pc : Nat), decode cX10_rooks pc = .ok (.ireturn, 1) → va_P G.1 vwCl [(q_t, .inr (9, [.ref q_t_z, .ref q_t_old, .ref q_t_past, .int t_states, .ref q_t_kept, .int t_isKept, .ref q_t_text, .int t_length, .ref q_t_order, .ref q_t_told, .int t_spot, .int t_toldRows, .ref q_t_rowsTaken, .ref q_t_columnsTaken, .ref q_t_ways, .ref q_t_scaled, .ref q_t_rowFactors, .ref q_t_columnFactors, .ref q_t_rest, .ref q_t_diagonals, .ref q_t_weights])), (q_t_z, .inl (G.2 0, 50, .inl t_z)), (q_t_order, .inl (G.2 0, 7, .inl o_t_order)), (q_t_rowsTaken, .inl (G.2 0, 7, .inl o_t_rowsTaken)), (q_t_columnsTaken, .inl (G.2 0, 7, .inl o_t_columnsTaken))] H → va_D A0 [(q_t, .inr (9, [.ref q_t_z, .ref q_t_old, .ref q_t_past, .int t_states, .ref q_t_kept, .int t_isKept, .ref q_t_text, .int t_length, .ref q_t_order, .ref q_t_told, .int t_spot, .int t_toldRows, .ref q_t_rowsTaken, .ref q_t_columnsTaken, .ref q_t_ways, .ref q_t_scaled, .ref q_t_rowFactors, .ref q_t_columnFactors, .ref q_t_rest, .ref q_t_diagonals, .ref q_t_weights])), (q_t_z, .inl (G.2 0, 50, .inl t_z)), (q_t_order, .inl (G.2 0, 7, .inl o_t_order)), (q_t_rowsTaken, .inl (G.2 0, 7, .inl o_t_rowsTaken)), (q_t_columnsTaken, .inl (G.2 0, 7, .inl o_t_columnsTaken))] → va_S A0 H0 H locs → W p l e ({ frames := 4, cells := 0, slots := 0, locals := 103 } : Room) s m args below meth c H locs 0 0 Q (F0 m pc ls [.int r])) : ∀ (H : Heap) (locs : List Loc) (ls : Array Slot), va_P G.1 vwCl [(q_t, .inr (9, [.ref q_t_z, .ref q_t_old, .ref q_t_past, .int t_states, .ref q_t_kept, .int t_isKept, .ref q_t_text, .int t_length, .ref q_t_order, .ref q_t_told, .int t_spot, .int t_toldRows, .ref q_t_rowsTaken, .ref q_t_columnsTaken, .ref q_t_ways, .ref q_t_scaled, .ref q_t_rowFactors, .ref q_t_columnFactors, .ref q_t_rest, .ref q_t_diagonals, .ref q_t_weights])), (q_t_z, .inl (G.2 0, 50, .inl t_z)), (q_t_order, .inl (G.2 0, 7, .inl t_order)), (q_t_rowsTaken, .inl (G.2 0, 7, .inl t_rowsTaken)), (q_t_columnsTaken, .inl (G.2 0, 7, .inl t_columnsTaken))] H → va_D A0 [(q_t, .inr (9, [.ref q_t_z, .ref q_t_old, .ref q_t_past, .int t_states, .ref q_t_kept, .int t_isKept, .ref q_t_text, .int t_length, .ref q_t_order, .ref q_t_told, .int t_spot, .int t_toldRows, .ref q_t_rowsTaken, .ref q_t_columnsTaken, .ref q_t_ways, .ref q_t_scaled, .ref q_t_rowFactors, .ref q_t_columnFactors, .ref q_t_rest, .ref q_t_diagonals, .ref q_t_weights])), (q_t_z, .inl (G.2 0, 50, .inl t_z)), (q_t_order, .inl (G.2 0, 7, .inl t_order)), (q_t_rowsTaken, .inl (G.2 0, 7, .inl t_rowsTaken)), (q_t_columnsTaken, .inl (G.2 0, 7, .inl t_columnsTaken))] → va_S A0 H0 H locs → lv_has ls 2 [(0, .ref q_t), (1, .int a1)] → W p l e ({ frames := 4, cells := 0, slots := 0, locals := 103 } : Room) s m args below meth c H locs 0 0 Q (F0 m 0 ls []) := by
  obtain ⟨hx, hb, hml, hown, hts⟩ := C
  intro H locs ls hP hD hS hl
  rw [f_X10_rooks] at h
  refine lv_iload_n hx hb dX10_rooks_0 rfl (lv_at hl 1 rfl) ?_
  refine lv_iconst (v := 0) hx hb dX10_rooks_1 (by decide) ?_
  refine lv_aload_n hx hb dX10_rooks_2 rfl (lv_at hl 0 rfl) ?_
  refine va_get (D := G.1) (ci := 9) (v := .ref q_t_z) (C := RX10) (T := TX10) (N := 21) hx hb hts wi_X10_rooks_X10 hown hK hP 0 rfl rfl 0 (by decide) (hts _ wd_X10_rooks_1) (fun _ h9 => h9) rfl dX10_rooks_3 ?_
  refine lv_bipush (v := 49) hx hb dX10_rooks_6 (by decide) ?_
  obtain ⟨g_1, h⟩ := gd_ok h
  refine va_iald (D := G.1) hx hb hK hP 1 0 rfl rfl g_1 dX10_rooks_8 ?_
  obtain ⟨r_2, hf_3, h⟩ := bd_ok h
  refine ck_Si (rest := []) (wn := [(q_t, .inr (9, [.ref q_t_z, .ref q_t_old, .ref q_t_past, .int t_states, .ref q_t_kept, .int t_isKept, .ref q_t_text, .int t_length, .ref q_t_order, .ref q_t_told, .int t_spot, .int t_toldRows, .ref q_t_rowsTaken, .ref q_t_columnsTaken, .ref q_t_ways, .ref q_t_scaled, .ref q_t_rowFactors, .ref q_t_columnFactors, .ref q_t_rest, .ref q_t_diagonals, .ref q_t_weights])), (q_t_z, .inl (G.2 0, 50, .inl t_z)), (q_t_order, .inl (G.2 0, 7, .inl t_order)), (q_t_rowsTaken, .inl (G.2 0, 7, .inl t_rowsTaken)), (q_t_columnsTaken, .inl (G.2 0, 7, .inl t_columnsTaken))]) ⟨hx, hb, hml, hown, hts⟩ hK hP hD hS hA [] [0, 1, 2, 3, 4] [0, 1, 2, 3, 4] (c_X10_in l G _ a1 (0 : Int32) (t_z (49 : Int32).toNatClampNeg) _ hf_3) (cwS 3 hts gX10_rooks_X10_in rfl rfl rfl (by decide +kernel) ⟨Nat.le_of_ble_eq_true rfl, Nat.le_of_ble_eq_true rfl⟩) rfl rfl rfl rfl (by decide) rfl rfl rfl hl.1 rfl (Nat.le_of_ble_eq_true rfl) dX10_rooks_9 ⟨Nat.zero_le _, Nat.zero_le _⟩ (fun H locs hP hD hS => ?_)
  refine lv_if_eq (tgt := 25) hx hb dX10_rooks_12 (by decide) (fun c_4 => ?_) (fun c_4 => ?_)
  · replace h := it_t h c_4
    refine lv_ldc (v := -2000000002) hx hb hown (hts _ wd_X10_rooks_2) dX10_rooks_25 ?_
    obtain ⟨rfl, rfl, rfl, rfl⟩ := sm4 h
    exact KR H locs ls 27 dX10_rooks_27 hP hD hS
  · replace h := it_f h c_4
    refine lv_aload_n hx hb dX10_rooks_15 rfl (lv_at hl 0 rfl) ?_
    refine lv_iload_n hx hb dX10_rooks_16 rfl (lv_at hl 1 rfl) ?_
    refine lv_iconst (v := 1) hx hb dX10_rooks_17 (by decide) ?_
    obtain ⟨⟨r_8, t_order_5, t_rowsTaken_6, t_columnsTaken_7⟩, hf_9, h⟩ := bd_ok h
    refine ck_Vl (rest := []) (wn := [(q_t, .inr (9, [.ref q_t_z, .ref q_t_old, .ref q_t_past, .int t_states, .ref q_t_kept, .int t_isKept, .ref q_t_text, .int t_length, .ref q_t_order, .ref q_t_told, .int t_spot, .int t_toldRows, .ref q_t_rowsTaken, .ref q_t_columnsTaken, .ref q_t_ways, .ref q_t_scaled, .ref q_t_rowFactors, .ref q_t_columnFactors, .ref q_t_rest, .ref q_t_diagonals, .ref q_t_weights])), (q_t_z, .inl (G.2 0, 50, .inl t_z)), (q_t_order, .inl (G.2 0, 7, .inl t_order_5)), (q_t_rowsTaken, .inl (G.2 0, 7, .inl t_rowsTaken_6)), (q_t_columnsTaken, .inl (G.2 0, 7, .inl t_columnsTaken_7))]) ⟨hx, hb, hml, hown, hts⟩ hK hP hD hS hA [0, 1, 2, 3, 4] [] [0, 1, 2, 3, 4] (c_X10_sumOfAll l G q_t q_t_z q_t_old q_t_past q_t_kept q_t_text q_t_order q_t_told q_t_rowsTaken q_t_columnsTaken q_t_ways q_t_scaled q_t_rowFactors q_t_columnFactors q_t_rest q_t_diagonals q_t_weights _ t_states t_isKept t_length t_spot t_toldRows t_z t_order t_rowsTaken t_columnsTaken a1 (1 : Int32) _ _ _ _ hf_9) (cwV 2 hts gX10_rooks_X10_sumOfAll rfl rfl rfl (by decide +kernel) ⟨Nat.le_of_ble_eq_true rfl, Nat.le_of_ble_eq_true rfl⟩) rfl rfl rfl rfl rfl rfl (by decide) rfl rfl rfl hl.1 rfl (Nat.le_of_ble_eq_true rfl) dX10_rooks_18 ⟨Nat.zero_le _, Nat.zero_le _⟩ (fun H locs hP hD hS => ?_)
    refine lv_l2i hx hb dX10_rooks_21 rfl ?_
    refine lv_goto (tgt := 27) hx hb dX10_rooks_22 (by decide) ?_
    obtain ⟨rfl, rfl, rfl, rfl⟩ := sm4 h
    exact KR H locs ls 27 dX10_rooks_27 hP hD hS
set_option maxHeartbeats 4000000 in
set_option maxRecDepth 100000 in
theorem c_X10_rooks (l : Launch) (G : GT) (q_t q_t_z q_t_old q_t_past q_t_kept q_t_text q_t_order q_t_told q_t_rowsTaken q_t_columnsTaken q_t_ways q_t_scaled q_t_rowFactors q_t_columnFactors q_t_rest q_t_diagonals q_t_weights : Nat) (sz : Nat) (t_states : Int32) (t_isKept : Int32) (t_length : Int32) (t_spot : Int32) (t_toldRows : Int32) (t_z : Nat → Int32) (t_order : Nat → Int32) (t_rowsTaken : Nat → Int32) (t_columnsTaken : Nat → Int32) (a1 : Int32) (r : Int32) (o_t_order : Nat → Int32) (o_t_rowsTaken : Nat → Int32) (o_t_columnsTaken : Nat → Int32) (h : f_X10_rooks t_z t_order t_rowsTaken t_columnsTaken a1 = some (r, o_t_order, o_t_rowsTaken, o_t_columnsTaken)) : Met l yX10_rooks wsX10_rooks ({ frames := 4, cells := 0, slots := 0, locals := 103 } : Room) (va_Pc [.ref q_t, .int a1] (pcW G [(q_t, .inr (9, [.ref q_t_z, .ref q_t_old, .ref q_t_past, .int t_states, .ref q_t_kept, .int t_isKept, .ref q_t_text, .int t_length, .ref q_t_order, .ref q_t_told, .int t_spot, .int t_toldRows, .ref q_t_rowsTaken, .ref q_t_columnsTaken, .ref q_t_ways, .ref q_t_scaled, .ref q_t_rowFactors, .ref q_t_columnFactors, .ref q_t_rest, .ref q_t_diagonals, .ref q_t_weights])), (q_t_z, .inl (G.2 0, 50, .inl t_z)), (q_t_order, .inl (G.2 0, 7, .inl t_order)), (q_t_rowsTaken, .inl (G.2 0, 7, .inl t_rowsTaken)), (q_t_columnsTaken, .inl (G.2 0, 7, .inl t_columnsTaken))] sz)) (va_Qi (fun r9 (_ : Unit) => r9 = r) (fun _ t => atW G (va_A [(q_t, .inr (9, [.ref q_t_z, .ref q_t_old, .ref q_t_past, .int t_states, .ref q_t_kept, .int t_isKept, .ref q_t_text, .int t_length, .ref q_t_order, .ref q_t_told, .int t_spot, .int t_toldRows, .ref q_t_rowsTaken, .ref q_t_columnsTaken, .ref q_t_ways, .ref q_t_scaled, .ref q_t_rowFactors, .ref q_t_columnFactors, .ref q_t_rest, .ref q_t_diagonals, .ref q_t_weights])), (q_t_z, .inl (G.2 0, 50, .inl t_z)), (q_t_order, .inl (G.2 0, 7, .inl t_order)), (q_t_rowsTaken, .inl (G.2 0, 7, .inl t_rowsTaken)), (q_t_columnsTaken, .inl (G.2 0, 7, .inl t_columnsTaken))] sz) [(q_t, .inr (9, [.ref q_t_z, .ref q_t_old, .ref q_t_past, .int t_states, .ref q_t_kept, .int t_isKept, .ref q_t_text, .int t_length, .ref q_t_order, .ref q_t_told, .int t_spot, .int t_toldRows, .ref q_t_rowsTaken, .ref q_t_columnsTaken, .ref q_t_ways, .ref q_t_scaled, .ref q_t_rowFactors, .ref q_t_columnFactors, .ref q_t_rest, .ref q_t_diagonals, .ref q_t_weights])), (q_t_z, .inl (G.2 0, 50, .inl t_z)), (q_t_order, .inl (G.2 0, 7, .inl o_t_order)), (q_t_rowsTaken, .inl (G.2 0, 7, .inl o_t_rowsTaken)), (q_t_columnsTaken, .inl (G.2 0, 7, .inl o_t_columnsTaken))] t) (va_A [(q_t, .inr (9, [.ref q_t_z, .ref q_t_old, .ref q_t_past, .int t_states, .ref q_t_kept, .int t_isKept, .ref q_t_text, .int t_length, .ref q_t_order, .ref q_t_told, .int t_spot, .int t_toldRows, .ref q_t_rowsTaken, .ref q_t_columnsTaken, .ref q_t_ways, .ref q_t_scaled, .ref q_t_rowFactors, .ref q_t_columnFactors, .ref q_t_rest, .ref q_t_diagonals, .ref q_t_weights])), (q_t_z, .inl (G.2 0, 50, .inl t_z)), (q_t_order, .inl (G.2 0, 7, .inl t_order)), (q_t_rowsTaken, .inl (G.2 0, 7, .inl t_rowsTaken)), (q_t_columnsTaken, .inl (G.2 0, 7, .inl t_columnsTaken))] sz)) 0 0 (va_A [(q_t, .inr (9, [.ref q_t_z, .ref q_t_old, .ref q_t_past, .int t_states, .ref q_t_kept, .int t_isKept, .ref q_t_text, .int t_length, .ref q_t_order, .ref q_t_told, .int t_spot, .int t_toldRows, .ref q_t_rowsTaken, .ref q_t_columnsTaken, .ref q_t_ways, .ref q_t_scaled, .ref q_t_rowFactors, .ref q_t_columnFactors, .ref q_t_rest, .ref q_t_diagonals, .ref q_t_weights])), (q_t_z, .inl (G.2 0, 50, .inl t_z)), (q_t_order, .inl (G.2 0, 7, .inl t_order)), (q_t_rowsTaken, .inl (G.2 0, 7, .inl t_rowsTaken)), (q_t_columnsTaken, .inl (G.2 0, 7, .inl t_columnsTaken))] sz) := by
  refine Met.ofW (cc := cX10_rooks) (maxL := 2) (ret := (some .int)) (by decide) rfl ?_
  intro p e s m args below meth c s₁ B hml hv
  obtain ⟨rfl, hsz, hP, hK, hD0⟩ := hv
  subst hsz
  have hD := hD0.self (sz := s.heap.size)
  generalize hAe : va_A [(q_t, .inr (9, [.ref q_t_z, .ref q_t_old, .ref q_t_past, .int t_states, .ref q_t_kept, .int t_isKept, .ref q_t_text, .int t_length, .ref q_t_order, .ref q_t_told, .int t_spot, .int t_toldRows, .ref q_t_rowsTaken, .ref q_t_columnsTaken, .ref q_t_ways, .ref q_t_scaled, .ref q_t_rowFactors, .ref q_t_columnFactors, .ref q_t_rest, .ref q_t_diagonals, .ref q_t_weights])), (q_t_z, .inl (G.2 0, 50, .inl t_z)), (q_t_order, .inl (G.2 0, 7, .inl t_order)), (q_t_rowsTaken, .inl (G.2 0, 7, .inl t_rowsTaken)), (q_t_columnsTaken, .inl (G.2 0, 7, .inl t_columnsTaken))] s.heap.size = A at hD ⊢
  have hA : ∀ q : Nat, s.heap.size ≤ q → A q := fun q h => by rw [← hAe]; exact Or.inr h
  have hl := lv_entry ([.ref q_t, .int a1]) (n := 2) (Nat.le_of_ble_eq_true rfl)
  rw [lg_entry_eq]
  refine k_X10_rooks ⟨B.exec, B.bytes, hml, findClass_of_methodNamed B.named, atoms_spec (ws := wsX10_rooks) B.pre⟩ G hK hA q_t q_t_z q_t_old q_t_past q_t_kept q_t_text q_t_order q_t_told q_t_rowsTaken q_t_columnsTaken q_t_ways q_t_scaled q_t_rowFactors q_t_columnFactors q_t_rest q_t_diagonals q_t_weights _ _ _ _ _ _ _ _ _ _ _ _ _ _ h ?_ _ _ _ hP hD va_S.rf hl
  intro H locs ls pc hd hP hD hS
  exact W.iret B.exec B.bytes B.returns (fun t ht hW => ⟨⟨r, (), rfl, rfl, by rw [ht]; exact hP, hD⟩, hS.F ht⟩) hS.2.2 hd B.notSynchronized
set_option maxRecDepth 20000 in
theorem wd_X10_columnsOf_1 : Cond.fieldLink RX10 7 "PermanentDeskModel" "z" "[I" ∈ wsX10_columnsOf := List.mem_of_getElem? (i := 1) (by decide +kernel)
set_option maxRecDepth 20000 in
theorem wi_X10_columnsOf_X10 : ∀ w ∈ u_ws RX10 TX10 21, w ∈ wsX10_columnsOf := by decide +kernel
def f_X10_columnsOf_L1 (x1 : Int32) (t_z : Nat → Int32) : (Int32 × Int32) → Option ((Int32 × Int32) ⊕ Int32)
  | (x2, x3) =>
    if (49 : Int32) ≤ x3 then
      some (.inr x2)
    else
      if ((x1 >>> ((x3 / (7 : Int32)) &&& 31)) &&& (1 : Int32)) = (1 : Int32) then
        gd (okI x3 50) (
        if (t_z x3.toNatClampNeg) = 0 then
          pl ((x2 ||| (0 : Int32)) : Int32) (fun x2_7 =>
          pl ((x3 + (1 : Int32)) : Int32) (fun x3_8 =>
          some (.inl (x2_7, x3_8))))
        else
          pl ((x2 ||| ((1 : Int32) <<< ((x3 - x3 / (7 : Int32) * (7 : Int32)) &&& 31))) : Int32) (fun x2_9 =>
          pl ((x3 + (1 : Int32)) : Int32) (fun x3_10 =>
          some (.inl (x2_9, x3_10)))))
      else
        pl ((x2 ||| (0 : Int32)) : Int32) (fun x2_3 =>
        pl ((x3 + (1 : Int32)) : Int32) (fun x3_4 =>
        some (.inl (x2_3, x3_4))))
def f_X10_columnsOf (t_z : Nat → Int32) (a1 : Int32) : Option Int32 :=
  (lpN (f_X10_columnsOf_L1 a1 t_z) FU ((0 : Int32), (0 : Int32))).bind (fun x2_11 =>
  some x2_11)
set_option maxHeartbeats 4000000 in
set_option maxRecDepth 100000 in
theorem l_X10_columnsOf_1 {p : Program} {l : Launch} {e : Env} {s : State} {m : MethodId} {args : Array Value} {below : List Frame} {meth : Method} {c : Code} {Q : State → Prop} {A0 : Nat → Prop} {H0 : Heap} (C : CallFix p m c cX10_columnsOf 4 s args wsX10_columnsOf RX10) (G : GT) (hK : gK G s) (hA : ∀ q : Nat, H0.size ≤ q → A0 q) (q_t q_t_z q_t_old q_t_past q_t_kept q_t_text q_t_order q_t_told q_t_rowsTaken q_t_columnsTaken q_t_ways q_t_scaled q_t_rowFactors q_t_columnFactors q_t_rest q_t_diagonals q_t_weights : Nat) (x1 : Int32) (t_states : Int32) (t_isKept : Int32) (t_length : Int32) (t_spot : Int32) (t_toldRows : Int32) (t_z : Nat → Int32) (E_x2 : Int32) (K : ∀ (H : Heap) (locs : List Loc) (ls : Array Slot), va_P G.1 vwCl [(q_t, .inr (9, [.ref q_t_z, .ref q_t_old, .ref q_t_past, .int t_states, .ref q_t_kept, .int t_isKept, .ref q_t_text, .int t_length, .ref q_t_order, .ref q_t_told, .int t_spot, .int t_toldRows, .ref q_t_rowsTaken, .ref q_t_columnsTaken, .ref q_t_ways, .ref q_t_scaled, .ref q_t_rowFactors, .ref q_t_columnFactors, .ref q_t_rest, .ref q_t_diagonals, .ref q_t_weights])), (q_t_z, .inl (G.2 0, 50, .inl t_z))] H → va_D A0 [(q_t, .inr (9, [.ref q_t_z, .ref q_t_old, .ref q_t_past, .int t_states, .ref q_t_kept, .int t_isKept, .ref q_t_text, .int t_length, .ref q_t_order, .ref q_t_told, .int t_spot, .int t_toldRows, .ref q_t_rowsTaken, .ref q_t_columnsTaken, .ref q_t_ways, .ref q_t_scaled, .ref q_t_rowFactors, .ref q_t_columnFactors, .ref q_t_rest, .ref q_t_diagonals, .ref q_t_weights])), (q_t_z, .inl (G.2 0, 50, .inl t_z))] → va_S A0 H0 H locs → lv_has ls 4 [(2, .int E_x2)] → W p l e ({ frames := 0, cells := 0, slots := 0, locals := 0 } : Room) s m args below meth c H locs 0 0 Q (F0 m 50 ls [])) : ∀ (n : Nat) (x2 : Int32) (x3 : Int32), lpN (f_X10_columnsOf_L1 x1 t_z) n (x2, x3) = some E_x2 → ∀ (H : Heap) (locs : List Loc) (ls : Array Slot), va_P G.1 vwCl [(q_t, .inr (9, [.ref q_t_z, .ref q_t_old, .ref q_t_past, .int t_states, .ref q_t_kept, .int t_isKept, .ref q_t_text, .int t_length, .ref q_t_order, .ref q_t_told, .int t_spot, .int t_toldRows, .ref q_t_rowsTaken, .ref q_t_columnsTaken, .ref q_t_ways, .ref q_t_scaled, .ref q_t_rowFactors, .ref q_t_columnFactors, .ref q_t_rest, .ref q_t_diagonals, .ref q_t_weights])), (q_t_z, .inl (G.2 0, 50, .inl t_z))] H → va_D A0 [(q_t, .inr (9, [.ref q_t_z, .ref q_t_old, .ref q_t_past, .int t_states, .ref q_t_kept, .int t_isKept, .ref q_t_text, .int t_length, .ref q_t_order, .ref q_t_told, .int t_spot, .int t_toldRows, .ref q_t_rowsTaken, .ref q_t_columnsTaken, .ref q_t_ways, .ref q_t_scaled, .ref q_t_rowFactors, .ref q_t_columnFactors, .ref q_t_rest, .ref q_t_diagonals, .ref q_t_weights])), (q_t_z, .inl (G.2 0, 50, .inl t_z))] → va_S A0 H0 H locs → lv_has ls 4 [(0, .ref q_t), (1, .int x1), (2, .int x2), (3, .int x3)] → W p l e ({ frames := 0, cells := 0, slots := 0, locals := 0 } : Room) s m args below meth c H locs 0 0 Q (F0 m 4 ls []) := by
  obtain ⟨hx, hb, hml, hown, hts⟩ := C
  intro n
  induction n with
  | zero => intro x2 x3 h; exact absurd h (fun h => lp_0 h)
  | succ n ih =>
    intro x2 x3 h H locs ls hP hD hS hl
    obtain ⟨y, h, hk⟩ := lp_s h
    rw [f_X10_columnsOf_L1] at h
    refine lv_iload_n hx hb dX10_columnsOf_4 rfl (lv_at hl 3 rfl) ?_
    refine lv_bipush (v := 49) hx hb dX10_columnsOf_5 (by decide) ?_
    refine lv_icmp_ge (tgt := 50) hx hb dX10_columnsOf_7 (by decide) (fun c_1 => ?_) (fun c_1 => ?_)
    · replace h := it_t h c_1
      obtain rfl := sm1 h
      obtain rfl := sm1 hk
      exact K H locs ls hP hD hS (lv_sub hl [2] rfl)
    · replace h := it_f h c_1
      refine lv_iload_n hx hb dX10_columnsOf_10 rfl (lv_at hl 2 rfl) ?_
      refine lv_iload_n hx hb dX10_columnsOf_11 rfl (lv_at hl 1 rfl) ?_
      refine lv_iload_n hx hb dX10_columnsOf_12 rfl (lv_at hl 3 rfl) ?_
      refine lv_bipush (v := 7) hx hb dX10_columnsOf_13 (by decide) ?_
      refine lv_idiv hx hb dX10_columnsOf_15 (by decide) ?_
      refine lv_ishr hx hb dX10_columnsOf_16 ?_
      refine lv_iconst (v := 1) hx hb dX10_columnsOf_17 (by decide) ?_
      refine lv_iand hx hb dX10_columnsOf_18 ?_
      refine lv_iconst (v := 1) hx hb dX10_columnsOf_19 (by decide) ?_
      refine lv_icmp_ne (tgt := 41) hx hb dX10_columnsOf_20 (by decide) (fun c_2 => ?_) (fun c_2 => ?_)
      · replace h := it_f h c_2
        refine lv_iconst (v := 0) hx hb dX10_columnsOf_41 (by decide) ?_
        refine lv_ior hx hb dX10_columnsOf_42 ?_
        refine lv_topi (fun x2_3 ex2_3 => ?_)
        replace h := pl_v h ex2_3
        refine lv_istore_n (lv' := [(2, .int x2_3), (0, .ref q_t), (1, .int x1), (3, .int x3)]) hx hb dX10_columnsOf_43 rfl hl (by decide) rfl (fun ls hl => ?_)
        obtain ⟨x3_4, ex3_4, h⟩ := pl_ok h
        refine lv_iinc (v := x3_4) (lv' := [(3, .int x3_4), (2, .int x2_3), (0, .ref q_t), (1, .int x1)]) hx hb dX10_columnsOf_44 hl (k := 3) rfl (by rw [ex3_4]; rfl) (by decide) rfl (fun ls hl => ?_)
        refine lv_goto (tgt := 4) hx hb dX10_columnsOf_47 (by decide) ?_
        obtain rfl := sm1 h
        exact ih x2_3 x3_4 hk H locs ls hP hD hS (lv_sub hl [2, 3, 1, 0] rfl)
      · replace h := it_t h c_2
        refine lv_aload_n hx hb dX10_columnsOf_23 rfl (lv_at hl 0 rfl) ?_
        refine va_get (D := G.1) (ci := 9) (v := .ref q_t_z) (C := RX10) (T := TX10) (N := 21) hx hb hts wi_X10_columnsOf_X10 hown hK hP 0 rfl rfl 0 (by decide) (hts _ wd_X10_columnsOf_1) (fun _ h9 => h9) rfl dX10_columnsOf_24 ?_
        refine lv_iload_n hx hb dX10_columnsOf_27 rfl (lv_at hl 3 rfl) ?_
        obtain ⟨g_5, h⟩ := gd_ok h
        refine va_iald (D := G.1) hx hb hK hP 1 0 rfl rfl g_5 dX10_columnsOf_28 ?_
        refine lv_if_eq (tgt := 41) hx hb dX10_columnsOf_29 (by decide) (fun c_6 => ?_) (fun c_6 => ?_)
        · replace h := it_t h c_6
          refine lv_iconst (v := 0) hx hb dX10_columnsOf_41 (by decide) ?_
          refine lv_ior hx hb dX10_columnsOf_42 ?_
          refine lv_topi (fun x2_7 ex2_7 => ?_)
          replace h := pl_v h ex2_7
          refine lv_istore_n (lv' := [(2, .int x2_7), (0, .ref q_t), (1, .int x1), (3, .int x3)]) hx hb dX10_columnsOf_43 rfl hl (by decide) rfl (fun ls hl => ?_)
          obtain ⟨x3_8, ex3_8, h⟩ := pl_ok h
          refine lv_iinc (v := x3_8) (lv' := [(3, .int x3_8), (2, .int x2_7), (0, .ref q_t), (1, .int x1)]) hx hb dX10_columnsOf_44 hl (k := 3) rfl (by rw [ex3_8]; rfl) (by decide) rfl (fun ls hl => ?_)
          refine lv_goto (tgt := 4) hx hb dX10_columnsOf_47 (by decide) ?_
          obtain rfl := sm1 h
          exact ih x2_7 x3_8 hk H locs ls hP hD hS (lv_sub hl [2, 3, 1, 0] rfl)
        · replace h := it_f h c_6
          refine lv_iconst (v := 1) hx hb dX10_columnsOf_32 (by decide) ?_
          refine lv_iload_n hx hb dX10_columnsOf_33 rfl (lv_at hl 3 rfl) ?_
          refine lv_bipush (v := 7) hx hb dX10_columnsOf_34 (by decide) ?_
          refine lv_irem hx hb dX10_columnsOf_36 (by decide) ?_
          refine lv_ishl hx hb dX10_columnsOf_37 ?_
          refine lv_goto (tgt := 42) hx hb dX10_columnsOf_38 (by decide) ?_
          refine lv_ior hx hb dX10_columnsOf_42 ?_
          refine lv_topi (fun x2_9 ex2_9 => ?_)
          replace h := pl_v h ex2_9
          refine lv_istore_n (lv' := [(2, .int x2_9), (0, .ref q_t), (1, .int x1), (3, .int x3)]) hx hb dX10_columnsOf_43 rfl hl (by decide) rfl (fun ls hl => ?_)
          obtain ⟨x3_10, ex3_10, h⟩ := pl_ok h
          refine lv_iinc (v := x3_10) (lv' := [(3, .int x3_10), (2, .int x2_9), (0, .ref q_t), (1, .int x1)]) hx hb dX10_columnsOf_44 hl (k := 3) rfl (by rw [ex3_10]; rfl) (by decide) rfl (fun ls hl => ?_)
          refine lv_goto (tgt := 4) hx hb dX10_columnsOf_47 (by decide) ?_
          obtain rfl := sm1 h
          exact ih x2_9 x3_10 hk H locs ls hP hD hS (lv_sub hl [2, 3, 1, 0] rfl)
set_option maxHeartbeats 4000000 in
set_option maxRecDepth 100000 in
theorem k_X10_columnsOf {p : Program} {l : Launch} {e : Env} {s : State} {m : MethodId} {args : Array Value} {below : List Frame} {meth : Method} {c : Code} {Q : State → Prop} {A0 : Nat → Prop} {H0 : Heap} (C : CallFix p m c cX10_columnsOf 4 s args wsX10_columnsOf RX10) (G : GT) (hK : gK G s) (hA : ∀ q : Nat, H0.size ≤ q → A0 q) (q_t q_t_z q_t_old q_t_past q_t_kept q_t_text q_t_order q_t_told q_t_rowsTaken q_t_columnsTaken q_t_ways q_t_scaled q_t_rowFactors q_t_columnFactors q_t_rest q_t_diagonals q_t_weights : Nat) (t_states : Int32) (t_isKept : Int32) (t_length : Int32) (t_spot : Int32) (t_toldRows : Int32) (t_z : Nat → Int32) (a1 : Int32) (r : Int32) (h : f_X10_columnsOf t_z a1 = some r) (KR : ∀ (H : Heap) (locs : List Loc) (ls : Array Slot) (pc : Nat), decode cX10_columnsOf pc = .ok (.ireturn, 1) → va_P G.1 vwCl [(q_t, .inr (9, [.ref q_t_z, .ref q_t_old, .ref q_t_past, .int t_states, .ref q_t_kept, .int t_isKept, .ref q_t_text, .int t_length, .ref q_t_order, .ref q_t_told, .int t_spot, .int t_toldRows, .ref q_t_rowsTaken, .ref q_t_columnsTaken, .ref q_t_ways, .ref q_t_scaled, .ref q_t_rowFactors, .ref q_t_columnFactors, .ref q_t_rest, .ref q_t_diagonals, .ref q_t_weights])), (q_t_z, .inl (G.2 0, 50, .inl t_z))] H → va_D A0 [(q_t, .inr (9, [.ref q_t_z, .ref q_t_old, .ref q_t_past, .int t_states, .ref q_t_kept, .int t_isKept, .ref q_t_text, .int t_length, .ref q_t_order, .ref q_t_told, .int t_spot, .int t_toldRows, .ref q_t_rowsTaken, .ref q_t_columnsTaken, .ref q_t_ways, .ref q_t_scaled, .ref q_t_rowFactors, .ref q_t_columnFactors, .ref q_t_rest, .ref q_t_diagonals, .ref q_t_weights])), (q_t_z, .inl (G.2 0, 50, .inl t_z))] → va_S A0 H0 H locs → W p l e ({ frames := 0, cells := 0, slots := 0, locals := 0 } : Room) s m args below meth c H locs 0 0 Q (F0 m pc ls [.int r])) : ∀ (H : Heap) (locs : List Loc) (ls : Array Slot), va_P G.1 vwCl [(q_t, .inr (9, [.ref q_t_z, .ref q_t_old, .ref q_t_past, .int t_states, .ref q_t_kept, .int t_isKept, .ref q_t_text, .int t_length, .ref q_t_order, .ref q_t_told, .int t_spot, .int t_toldRows, .ref q_t_rowsTaken, .ref q_t_columnsTaken, .ref q_t_ways, .ref q_t_scaled, .ref q_t_rowFactors, .ref q_t_columnFactors, .ref q_t_rest, .ref q_t_diagonals, .ref q_t_weights])), (q_t_z, .inl (G.2 0, 50, .inl t_z))] H → va_D A0 [(q_t, .inr (9, [.ref q_t_z, .ref q_t_old, .ref q_t_past, .int t_states, .ref q_t_kept, .int t_isKept, .ref q_t_text, .int t_length, .ref q_t_order, .ref q_t_told, .int t_spot, .int t_toldRows, .ref q_t_rowsTaken, .ref q_t_columnsTaken, .ref q_t_ways, .ref q_t_scaled, .ref q_t_rowFactors, .ref q_t_columnFactors, .ref q_t_rest, .ref q_t_diagonals, .ref q_t_weights])), (q_t_z, .inl (G.2 0, 50, .inl t_z))] → va_S A0 H0 H locs → lv_has ls 4 [(0, .ref q_t), (1, .int a1)] → W p l e ({ frames := 0, cells := 0, slots := 0, locals := 0 } : Room) s m args below meth c H locs 0 0 Q (F0 m 0 ls []) := by
  obtain ⟨hx, hb, hml, hown, hts⟩ := C
  intro H locs ls hP hD hS hl
  rw [f_X10_columnsOf] at h
  refine lv_iconst (v := 0) hx hb dX10_columnsOf_0 (by decide) ?_
  refine lv_istore_n (lv' := [(2, .int (0 : Int32)), (0, .ref q_t), (1, .int a1)]) hx hb dX10_columnsOf_1 rfl hl (by decide) rfl (fun ls hl => ?_)
  refine lv_iconst (v := 0) hx hb dX10_columnsOf_2 (by decide) ?_
  refine lv_istore_n (lv' := [(3, .int (0 : Int32)), (2, .int (0 : Int32)), (0, .ref q_t), (1, .int a1)]) hx hb dX10_columnsOf_3 rfl hl (by decide) rfl (fun ls hl => ?_)
  obtain ⟨x2_11, hz_13, h⟩ := bd_ok h
  refine l_X10_columnsOf_1 ⟨hx, hb, hml, hown, hts⟩ G hK hA q_t q_t_z q_t_old q_t_past q_t_kept q_t_text q_t_order q_t_told q_t_rowsTaken q_t_columnsTaken q_t_ways q_t_scaled q_t_rowFactors q_t_columnFactors q_t_rest q_t_diagonals q_t_weights a1 t_states t_isKept t_length t_spot t_toldRows t_z x2_11 ?_ FU (0 : Int32) (0 : Int32) hz_13 H locs ls hP hD hS (lv_sub hl [2, 3, 1, 0] rfl)
  intro H locs ls hP hD hS hl
  refine lv_iload_n hx hb dX10_columnsOf_50 rfl (lv_at hl 0 rfl) ?_
  obtain rfl := sm1 h
  exact KR H locs ls 51 dX10_columnsOf_51 hP hD hS
set_option maxHeartbeats 4000000 in
set_option maxRecDepth 100000 in
theorem c_X10_columnsOf (l : Launch) (G : GT) (q_t q_t_z q_t_old q_t_past q_t_kept q_t_text q_t_order q_t_told q_t_rowsTaken q_t_columnsTaken q_t_ways q_t_scaled q_t_rowFactors q_t_columnFactors q_t_rest q_t_diagonals q_t_weights : Nat) (sz : Nat) (t_states : Int32) (t_isKept : Int32) (t_length : Int32) (t_spot : Int32) (t_toldRows : Int32) (t_z : Nat → Int32) (a1 : Int32) (r : Int32) (h : f_X10_columnsOf t_z a1 = some r) : Met l yX10_columnsOf wsX10_columnsOf ({ frames := 0, cells := 0, slots := 0, locals := 0 } : Room) (va_Pc [.ref q_t, .int a1] (pcW G [(q_t, .inr (9, [.ref q_t_z, .ref q_t_old, .ref q_t_past, .int t_states, .ref q_t_kept, .int t_isKept, .ref q_t_text, .int t_length, .ref q_t_order, .ref q_t_told, .int t_spot, .int t_toldRows, .ref q_t_rowsTaken, .ref q_t_columnsTaken, .ref q_t_ways, .ref q_t_scaled, .ref q_t_rowFactors, .ref q_t_columnFactors, .ref q_t_rest, .ref q_t_diagonals, .ref q_t_weights])), (q_t_z, .inl (G.2 0, 50, .inl t_z))] sz)) (va_Qi (fun r9 (_ : Unit) => r9 = r) (fun _ t => atW G (va_A [(q_t, .inr (9, [.ref q_t_z, .ref q_t_old, .ref q_t_past, .int t_states, .ref q_t_kept, .int t_isKept, .ref q_t_text, .int t_length, .ref q_t_order, .ref q_t_told, .int t_spot, .int t_toldRows, .ref q_t_rowsTaken, .ref q_t_columnsTaken, .ref q_t_ways, .ref q_t_scaled, .ref q_t_rowFactors, .ref q_t_columnFactors, .ref q_t_rest, .ref q_t_diagonals, .ref q_t_weights])), (q_t_z, .inl (G.2 0, 50, .inl t_z))] sz) [(q_t, .inr (9, [.ref q_t_z, .ref q_t_old, .ref q_t_past, .int t_states, .ref q_t_kept, .int t_isKept, .ref q_t_text, .int t_length, .ref q_t_order, .ref q_t_told, .int t_spot, .int t_toldRows, .ref q_t_rowsTaken, .ref q_t_columnsTaken, .ref q_t_ways, .ref q_t_scaled, .ref q_t_rowFactors, .ref q_t_columnFactors, .ref q_t_rest, .ref q_t_diagonals, .ref q_t_weights])), (q_t_z, .inl (G.2 0, 50, .inl t_z))] t) (va_A [(q_t, .inr (9, [.ref q_t_z, .ref q_t_old, .ref q_t_past, .int t_states, .ref q_t_kept, .int t_isKept, .ref q_t_text, .int t_length, .ref q_t_order, .ref q_t_told, .int t_spot, .int t_toldRows, .ref q_t_rowsTaken, .ref q_t_columnsTaken, .ref q_t_ways, .ref q_t_scaled, .ref q_t_rowFactors, .ref q_t_columnFactors, .ref q_t_rest, .ref q_t_diagonals, .ref q_t_weights])), (q_t_z, .inl (G.2 0, 50, .inl t_z))] sz)) 0 0 (va_A [(q_t, .inr (9, [.ref q_t_z, .ref q_t_old, .ref q_t_past, .int t_states, .ref q_t_kept, .int t_isKept, .ref q_t_text, .int t_length, .ref q_t_order, .ref q_t_told, .int t_spot, .int t_toldRows, .ref q_t_rowsTaken, .ref q_t_columnsTaken, .ref q_t_ways, .ref q_t_scaled, .ref q_t_rowFactors, .ref q_t_columnFactors, .ref q_t_rest, .ref q_t_diagonals, .ref q_t_weights])), (q_t_z, .inl (G.2 0, 50, .inl t_z))] sz) := by
  refine Met.ofW (cc := cX10_columnsOf) (maxL := 4) (ret := (some .int)) (by decide) rfl ?_
  intro p e s m args below meth c s₁ B hml hv
  obtain ⟨rfl, hsz, hP, hK, hD0⟩ := hv
  subst hsz
  have hD := hD0.self (sz := s.heap.size)
  generalize hAe : va_A [(q_t, .inr (9, [.ref q_t_z, .ref q_t_old, .ref q_t_past, .int t_states, .ref q_t_kept, .int t_isKept, .ref q_t_text, .int t_length, .ref q_t_order, .ref q_t_told, .int t_spot, .int t_toldRows, .ref q_t_rowsTaken, .ref q_t_columnsTaken, .ref q_t_ways, .ref q_t_scaled, .ref q_t_rowFactors, .ref q_t_columnFactors, .ref q_t_rest, .ref q_t_diagonals, .ref q_t_weights])), (q_t_z, .inl (G.2 0, 50, .inl t_z))] s.heap.size = A at hD ⊢
  have hA : ∀ q : Nat, s.heap.size ≤ q → A q := fun q h => by rw [← hAe]; exact Or.inr h
  have hl := lv_entry ([.ref q_t, .int a1]) (n := 4) (Nat.le_of_ble_eq_true rfl)
  rw [lg_entry_eq]
  refine k_X10_columnsOf ⟨B.exec, B.bytes, hml, findClass_of_methodNamed B.named, atoms_spec (ws := wsX10_columnsOf) B.pre⟩ G hK hA q_t q_t_z q_t_old q_t_past q_t_kept q_t_text q_t_order q_t_told q_t_rowsTaken q_t_columnsTaken q_t_ways q_t_scaled q_t_rowFactors q_t_columnFactors q_t_rest q_t_diagonals q_t_weights _ _ _ _ _ _ _ _ h ?_ _ _ _ hP hD va_S.rf hl
  intro H locs ls pc hd hP hD hS
  exact W.iret B.exec B.bytes B.returns (fun t ht hW => ⟨⟨r, (), rfl, rfl, by rw [ht]; exact hP, hD⟩, hS.F ht⟩) hS.2.2 hd B.notSynchronized
