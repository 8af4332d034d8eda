set_option maxRecDepth 20000 in
theorem wd_X10_minor_1 : Cond.constantLong RX10 177 (-9000000000000000001) ∈ wsX10_minor := List.mem_of_getElem? (i := 1) (by decide +kernel)
def f_X10_minor (t_z : Nat → Int32) (t_order : Nat → Int32) (t_rowsTaken : Nat → Int32) (t_columnsTaken : Nat → Int32) (a1 : Int32) (a2 : Int32) : Option (Int64 × (Nat → Int32) × (Nat → Int32) × (Nat → Int32)) :=
  (f_X10_isLine t_z a1).bind (fun r_1 =>
  if r_1 = 0 then
    some ((-9000000000000000001 : Int64), t_order, t_rowsTaken, t_columnsTaken)
  else
    (f_X10_isLine t_z a2).bind (fun r_4 =>
    if r_4 = 0 then
      some ((-9000000000000000001 : Int64), t_order, t_rowsTaken, t_columnsTaken)
    else
      (f_X10_all t_z).bind (fun r_7 =>
      (f_X10_all t_z).bind (fun r_9 =>
      (f_X10_sumOfSets t_z t_order t_rowsTaken t_columnsTaken (r_7 - ((1 : Int32) <<< (a1 &&& 31))) (r_9 - ((1 : Int32) <<< (a2 &&& 31))) (0 : Int32)).bind (fun (r_14, t_order_11, t_rowsTaken_12, t_columnsTaken_13) =>
      some (r_14, t_order_11, t_rowsTaken_12, t_columnsTaken_13))))))
set_option maxHeartbeats 4000000 in
set_option maxRecDepth 100000 in
theorem k_X10_minor {p : Program} {l : Launch} {e : Env} {s : State} {m : MethodId} {args : Array Value} {below : List Frame} {meth : Method} {c : Code} {Q : State → Prop} {A0 : Nat → Prop} {H0 : Heap} (C : CallFix p m c cX10_minor 3 s args wsX10_minor RX10) (G : GT) (hK : gK G s) (hA : ∀ q : Nat, H0.size ≤ q → A0 q) (q_t q_t_z q_t_old q_t_past q_t_kept q_t_text q_t_order q_t_told q_t_rowsTaken q_t_columnsTaken q_t_ways q_t_scaled q_t_rowFactors q_t_columnFactors q_t_rest q_t_diagonals q_t_weights : Nat) (t_states : Int32) (t_isKept : Int32) (t_length : Int32) (t_spot : Int32) (t_toldRows : Int32) (t_z : Nat → Int32) (t_order : Nat → Int32) (t_rowsTaken : Nat → Int32) (t_columnsTaken : Nat → Int32) (a1 : Int32) (a2 : Int32) (r : Int64) (o_t_order : Nat → Int32) (o_t_rowsTaken : Nat → Int32) (o_t_columnsTaken : Nat → Int32) (h : f_X10_minor t_z t_order t_rowsTaken t_columnsTaken a1 a2 = some (r, o_t_order, o_t_rowsTaken, o_t_columnsTaken)) (KR : ∀ (H : Heap) (locs : List Loc) (ls : Array Slot) (pc : Nat), decode cX10_minor pc = .ok (.lreturn, 1) → va_P G.1 vwCl [(q_t, .inr (9, [.ref q_t_z, .ref q_t_old, .ref q_t_past, .int t_states, .ref q_t_kept, .int t_isKept, .ref q_t_text, .int t_length, .ref q_t_order, .ref q_t_told, .int t_spot, .int t_toldRows, .ref q_t_rowsTaken, .ref q_t_columnsTaken, .ref q_t_ways, .ref q_t_scaled, .ref q_t_rowFactors, .ref q_t_columnFactors, .ref q_t_rest, .ref q_t_diagonals, .ref q_t_weights])), (q_t_z, .inl (G.2 0, 50, .inl t_z)), (q_t_order, .inl (G.2 0, 7, .inl o_t_order)), (q_t_rowsTaken, .inl (G.2 0, 7, .inl o_t_rowsTaken)), (q_t_columnsTaken, .inl (G.2 0, 7, .inl o_t_columnsTaken))] H → va_D A0 [(q_t, .inr (9, [.ref q_t_z, .ref q_t_old, .ref q_t_past, .int t_states, .ref q_t_kept, .int t_isKept, .ref q_t_text, .int t_length, .ref q_t_order, .ref q_t_told, .int t_spot, .int t_toldRows, .ref q_t_rowsTaken, .ref q_t_columnsTaken, .ref q_t_ways, .ref q_t_scaled, .ref q_t_rowFactors, .ref q_t_columnFactors, .ref q_t_rest, .ref q_t_diagonals, .ref q_t_weights])), (q_t_z, .inl (G.2 0, 50, .inl t_z)), (q_t_order, .inl (G.2 0, 7, .inl o_t_order)), (q_t_rowsTaken, .inl (G.2 0, 7, .inl o_t_rowsTaken)), (q_t_columnsTaken, .inl (G.2 0, 7, .inl o_t_columnsTaken))] → va_S A0 H0 H locs → W p l e ({ frames := 3, cells := 0, slots := 0, locals := 77 } : Room) s m args below meth c H locs 0 0 Q (F0 m pc ls [.long r])) : ∀ (H : Heap) (locs : List Loc) (ls : Array Slot), va_P G.1 vwCl [(q_t, .inr (9, [.ref q_t_z, .ref q_t_old, .ref q_t_past, .int t_states, .ref q_t_kept, .int t_isKept, .ref q_t_text, .int t_length, .ref q_t_order, .ref q_t_told, .int t_spot, .int t_toldRows, .ref q_t_rowsTaken, .ref q_t_columnsTaken, .ref q_t_ways, .ref q_t_scaled, .ref q_t_rowFactors, .ref q_t_columnFactors, .ref q_t_rest, .ref q_t_diagonals, .ref q_t_weights])), (q_t_z, .inl (G.2 0, 50, .inl t_z)), (q_t_order, .inl (G.2 0, 7, .inl t_order)), (q_t_rowsTaken, .inl (G.2 0, 7, .inl t_rowsTaken)), (q_t_columnsTaken, .inl (G.2 0, 7, .inl t_columnsTaken))] H → va_D A0 [(q_t, .inr (9, [.ref q_t_z, .ref q_t_old, .ref q_t_past, .int t_states, .ref q_t_kept, .int t_isKept, .ref q_t_text, .int t_length, .ref q_t_order, .ref q_t_told, .int t_spot, .int t_toldRows, .ref q_t_rowsTaken, .ref q_t_columnsTaken, .ref q_t_ways, .ref q_t_scaled, .ref q_t_rowFactors, .ref q_t_columnFactors, .ref q_t_rest, .ref q_t_diagonals, .ref q_t_weights])), (q_t_z, .inl (G.2 0, 50, .inl t_z)), (q_t_order, .inl (G.2 0, 7, .inl t_order)), (q_t_rowsTaken, .inl (G.2 0, 7, .inl t_rowsTaken)), (q_t_columnsTaken, .inl (G.2 0, 7, .inl t_columnsTaken))] → va_S A0 H0 H locs → lv_has ls 3 [(0, .ref q_t), (1, .int a1), (2, .int a2)] → W p l e ({ frames := 3, cells := 0, slots := 0, locals := 77 } : Room) s m args below meth c H locs 0 0 Q (F0 m 0 ls []) := by
  obtain ⟨hx, hb, hml, hown, hts⟩ := C
  intro H locs ls hP hD hS hl
  rw [f_X10_minor] at h
  refine lv_aload_n hx hb dX10_minor_0 rfl (lv_at hl 0 rfl) ?_
  refine lv_iload_n hx hb dX10_minor_1 rfl (lv_at hl 1 rfl) ?_
  obtain ⟨r_1, hf_2, h⟩ := bd_ok h
  refine ck_Vi (rest := []) (wn := [(q_t, .inr (9, [.ref q_t_z, .ref q_t_old, .ref q_t_past, .int t_states, .ref q_t_kept, .int t_isKept, .ref q_t_text, .int t_length, .ref q_t_order, .ref q_t_told, .int t_spot, .int t_toldRows, .ref q_t_rowsTaken, .ref q_t_columnsTaken, .ref q_t_ways, .ref q_t_scaled, .ref q_t_rowFactors, .ref q_t_columnFactors, .ref q_t_rest, .ref q_t_diagonals, .ref q_t_weights])), (q_t_z, .inl (G.2 0, 50, .inl t_z)), (q_t_order, .inl (G.2 0, 7, .inl t_order)), (q_t_rowsTaken, .inl (G.2 0, 7, .inl t_rowsTaken)), (q_t_columnsTaken, .inl (G.2 0, 7, .inl t_columnsTaken))]) ⟨hx, hb, hml, hown, hts⟩ hK hP hD hS hA [0, 1] [2, 3, 4] [3, 4, 0, 1, 2] (c_X10_isLine l G q_t q_t_z q_t_old q_t_past q_t_kept q_t_text q_t_order q_t_told q_t_rowsTaken q_t_columnsTaken q_t_ways q_t_scaled q_t_rowFactors q_t_columnFactors q_t_rest q_t_diagonals q_t_weights _ t_states t_isKept t_length t_spot t_toldRows t_z a1 _ hf_2) (cwV 1 hts gX10_minor_X10_isLine rfl rfl rfl (by decide +kernel) ⟨Nat.le_of_ble_eq_true rfl, Nat.le_of_ble_eq_true rfl⟩) rfl rfl rfl rfl rfl rfl (by decide) rfl rfl rfl hl.1 rfl (Nat.le_of_ble_eq_true rfl) dX10_minor_2 ⟨Nat.zero_le _, Nat.zero_le _⟩ (fun H locs hP hD hS => ?_)
  refine lv_if_eq (tgt := 16) hx hb dX10_minor_5 (by decide) (fun c_3 => ?_) (fun c_3 => ?_)
  · replace h := it_t h c_3
    refine lv_ldc2 (v := -9000000000000000001) hx hb hown (hts _ wd_X10_minor_1) dX10_minor_16 ?_
    obtain ⟨rfl, rfl, rfl, rfl⟩ := sm4 h
    exact KR H locs ls 19 dX10_minor_19 hP hD hS
  · replace h := it_f h c_3
    refine lv_aload_n hx hb dX10_minor_8 rfl (lv_at hl 0 rfl) ?_
    refine lv_iload_n hx hb dX10_minor_9 rfl (lv_at hl 2 rfl) ?_
    obtain ⟨r_4, hf_5, h⟩ := bd_ok h
    refine ck_Vi (rest := []) (wn := [(q_t, .inr (9, [.ref q_t_z, .ref q_t_old, .ref q_t_past, .int t_states, .ref q_t_kept, .int t_isKept, .ref q_t_text, .int t_length, .ref q_t_order, .ref q_t_told, .int t_spot, .int t_toldRows, .ref q_t_rowsTaken, .ref q_t_columnsTaken, .ref q_t_ways, .ref q_t_scaled, .ref q_t_rowFactors, .ref q_t_columnFactors, .ref q_t_rest, .ref q_t_diagonals, .ref q_t_weights])), (q_t_z, .inl (G.2 0, 50, .inl t_z)), (q_t_order, .inl (G.2 0, 7, .inl t_order)), (q_t_rowsTaken, .inl (G.2 0, 7, .inl t_rowsTaken)), (q_t_columnsTaken, .inl (G.2 0, 7, .inl t_columnsTaken))]) ⟨hx, hb, hml, hown, hts⟩ hK hP hD hS hA [0, 1] [2, 3, 4] [3, 4, 0, 1, 2] (c_X10_isLine l G q_t q_t_z q_t_old q_t_past q_t_kept q_t_text q_t_order q_t_told q_t_rowsTaken q_t_columnsTaken q_t_ways q_t_scaled q_t_rowFactors q_t_columnFactors q_t_rest q_t_diagonals q_t_weights _ t_states t_isKept t_length t_spot t_toldRows t_z a2 _ hf_5) (cwV 1 hts gX10_minor_X10_isLine rfl rfl rfl (by decide +kernel) ⟨Nat.le_of_ble_eq_true rfl, Nat.le_of_ble_eq_true rfl⟩) rfl rfl rfl rfl rfl rfl (by decide) rfl rfl rfl hl.1 rfl (Nat.le_of_ble_eq_true rfl) dX10_minor_10 ⟨Nat.zero_le _, Nat.zero_le _⟩ (fun H locs hP hD hS => ?_)
    refine lv_if_ne (tgt := 20) hx hb dX10_minor_13 (by decide) (fun c_6 => ?_) (fun c_6 => ?_)
    · replace h := it_f h c_6
      refine lv_aload_n hx hb dX10_minor_20 rfl (lv_at hl 0 rfl) ?_
      refine lv_aload_n hx hb dX10_minor_21 rfl (lv_at hl 0 rfl) ?_
      obtain ⟨r_7, hf_8, h⟩ := bd_ok h
      refine ck_Vi (rest := [.ref q_t]) (wn := [(q_t, .inr (9, [.ref q_t_z, .ref q_t_old, .ref q_t_past, .int t_states, .ref q_t_kept, .int t_isKept, .ref q_t_text, .int t_length, .ref q_t_order, .ref q_t_told, .int t_spot, .int t_toldRows, .ref q_t_rowsTaken, .ref q_t_columnsTaken, .ref q_t_ways, .ref q_t_scaled, .ref q_t_rowFactors, .ref q_t_columnFactors, .ref q_t_rest, .ref q_t_diagonals, .ref q_t_weights])), (q_t_z, .inl (G.2 0, 50, .inl t_z)), (q_t_order, .inl (G.2 0, 7, .inl t_order)), (q_t_rowsTaken, .inl (G.2 0, 7, .inl t_rowsTaken)), (q_t_columnsTaken, .inl (G.2 0, 7, .inl t_columnsTaken))]) ⟨hx, hb, hml, hown, hts⟩ hK hP hD hS hA [0, 1] [2, 3, 4] [3, 4, 0, 1, 2] (c_X10_all l G q_t q_t_z q_t_old q_t_past q_t_kept q_t_text q_t_order q_t_told q_t_rowsTaken q_t_columnsTaken q_t_ways q_t_scaled q_t_rowFactors q_t_columnFactors q_t_rest q_t_diagonals q_t_weights _ t_states t_isKept t_length t_spot t_toldRows t_z _ hf_8) (cwV 0 hts gX10_minor_X10_all rfl rfl rfl (by decide +kernel) ⟨Nat.le_of_ble_eq_true rfl, Nat.le_of_ble_eq_true rfl⟩) rfl rfl rfl rfl rfl rfl (by decide) rfl rfl rfl hl.1 rfl (Nat.le_of_ble_eq_true rfl) dX10_minor_22 ⟨Nat.zero_le _, Nat.zero_le _⟩ (fun H locs hP hD hS => ?_)
      refine lv_iconst (v := 1) hx hb dX10_minor_25 (by decide) ?_
      refine lv_iload_n hx hb dX10_minor_26 rfl (lv_at hl 1 rfl) ?_
      refine lv_ishl hx hb dX10_minor_27 ?_
      refine lv_isub hx hb dX10_minor_28 ?_
      refine lv_aload_n hx hb dX10_minor_29 rfl (lv_at hl 0 rfl) ?_
      obtain ⟨r_9, hf_10, h⟩ := bd_ok h
      refine ck_Vi (rest := [.int (r_7 - ((1 : Int32) <<< (a1 &&& 31))), .ref q_t]) (wn := [(q_t, .inr (9, [.ref q_t_z, .ref q_t_old, .ref q_t_past, .int t_states, .ref q_t_kept, .int t_isKept, .ref q_t_text, .int t_length, .ref q_t_order, .ref q_t_told, .int t_spot, .int t_toldRows, .ref q_t_rowsTaken, .ref q_t_columnsTaken, .ref q_t_ways, .ref q_t_scaled, .ref q_t_rowFactors, .ref q_t_columnFactors, .ref q_t_rest, .ref q_t_diagonals, .ref q_t_weights])), (q_t_z, .inl (G.2 0, 50, .inl t_z)), (q_t_order, .inl (G.2 0, 7, .inl t_order)), (q_t_rowsTaken, .inl (G.2 0, 7, .inl t_rowsTaken)), (q_t_columnsTaken, .inl (G.2 0, 7, .inl t_columnsTaken))]) ⟨hx, hb, hml, hown, hts⟩ hK hP hD hS hA [0, 1] [2, 3, 4] [3, 4, 0, 1, 2] (c_X10_all l G q_t q_t_z q_t_old q_t_past q_t_kept q_t_text q_t_order q_t_told q_t_rowsTaken q_t_columnsTaken q_t_ways q_t_scaled q_t_rowFactors q_t_columnFactors q_t_rest q_t_diagonals q_t_weights _ t_states t_isKept t_length t_spot t_toldRows t_z _ hf_10) (cwV 0 hts gX10_minor_X10_all rfl rfl rfl (by decide +kernel) ⟨Nat.le_of_ble_eq_true rfl, Nat.le_of_ble_eq_true rfl⟩) rfl rfl rfl rfl rfl rfl (by decide) rfl rfl rfl hl.1 rfl (Nat.le_of_ble_eq_true rfl) dX10_minor_30 ⟨Nat.zero_le _, Nat.zero_le _⟩ (fun H locs hP hD hS => ?_)
      refine lv_iconst (v := 1) hx hb dX10_minor_33 (by decide) ?_
      refine lv_iload_n hx hb dX10_minor_34 rfl (lv_at hl 2 rfl) ?_
      refine lv_ishl hx hb dX10_minor_35 ?_
      refine lv_isub hx hb dX10_minor_36 ?_
      refine lv_iconst (v := 0) hx hb dX10_minor_37 (by decide) ?_
      obtain ⟨⟨r_14, t_order_11, t_rowsTaken_12, t_columnsTaken_13⟩, hf_15, h⟩ := bd_ok h
      refine ck_Vl (rest := []) (wn := [(q_t, .inr (9, [.ref q_t_z, .ref q_t_old, .ref q_t_past, .int t_states, .ref q_t_kept, .int t_isKept, .ref q_t_text, .int t_length, .ref q_t_order, .ref q_t_told, .int t_spot, .int t_toldRows, .ref q_t_rowsTaken, .ref q_t_columnsTaken, .ref q_t_ways, .ref q_t_scaled, .ref q_t_rowFactors, .ref q_t_columnFactors, .ref q_t_rest, .ref q_t_diagonals, .ref q_t_weights])), (q_t_z, .inl (G.2 0, 50, .inl t_z)), (q_t_order, .inl (G.2 0, 7, .inl t_order_11)), (q_t_rowsTaken, .inl (G.2 0, 7, .inl t_rowsTaken_12)), (q_t_columnsTaken, .inl (G.2 0, 7, .inl t_columnsTaken_13))]) ⟨hx, hb, hml, hown, hts⟩ hK hP hD hS hA [0, 1, 2, 3, 4] [] [0, 1, 2, 3, 4] (c_X10_sumOfSets l G q_t q_t_z q_t_old q_t_past q_t_kept q_t_text q_t_order q_t_told q_t_rowsTaken q_t_columnsTaken q_t_ways q_t_scaled q_t_rowFactors q_t_columnFactors q_t_rest q_t_diagonals q_t_weights _ t_states t_isKept t_length t_spot t_toldRows t_z t_order t_rowsTaken t_columnsTaken (r_7 - ((1 : Int32) <<< (a1 &&& 31))) (r_9 - ((1 : Int32) <<< (a2 &&& 31))) (0 : Int32) _ _ _ _ hf_15) (cwV 3 hts gX10_minor_X10_sumOfSets rfl rfl rfl (by decide +kernel) ⟨Nat.le_of_ble_eq_true rfl, Nat.le_of_ble_eq_true rfl⟩) rfl rfl rfl rfl rfl rfl (by decide) rfl rfl rfl hl.1 rfl (Nat.le_of_ble_eq_true rfl) dX10_minor_38 ⟨Nat.zero_le _, Nat.zero_le _⟩ (fun H locs hP hD hS => ?_)
      obtain ⟨rfl, rfl, rfl, rfl⟩ := sm4 h
      exact KR H locs ls 41 dX10_minor_41 hP hD hS
    · replace h := it_t h c_6
      refine lv_ldc2 (v := -9000000000000000001) hx hb hown (hts _ wd_X10_minor_1) dX10_minor_16 ?_
      obtain ⟨rfl, rfl, rfl, rfl⟩ := sm4 h
      exact KR H locs ls 19 dX10_minor_19 hP hD hS
set_option maxHeartbeats 4000000 in
set_option maxRecDepth 100000 in
theorem c_X10_minor (l : Launch) (G : GT) (q_t q_t_z q_t_old q_t_past q_t_kept q_t_text q_t_order q_t_told q_t_rowsTaken q_t_columnsTaken q_t_ways q_t_scaled q_t_rowFactors q_t_columnFactors q_t_rest q_t_diagonals q_t_weights : Nat) (sz : Nat) (t_states : Int32) (t_isKept : Int32) (t_length : Int32) (t_spot : Int32) (t_toldRows : Int32) (t_z : Nat → Int32) (t_order : Nat → Int32) (t_rowsTaken : Nat → Int32) (t_columnsTaken : Nat → Int32) (a1 : Int32) (a2 : Int32) (r : Int64) (o_t_order : Nat → Int32) (o_t_rowsTaken : Nat → Int32) (o_t_columnsTaken : Nat → Int32) (h : f_X10_minor t_z t_order t_rowsTaken t_columnsTaken a1 a2 = some (r, o_t_order, o_t_rowsTaken, o_t_columnsTaken)) : Met l yX10_minor wsX10_minor ({ frames := 3, cells := 0, slots := 0, locals := 77 } : Room) (va_Pc [.ref q_t, .int a1, .int a2] (pcW G [(q_t, .inr (9, [.ref q_t_z, .ref q_t_old, .ref q_t_past, .int t_states, .ref q_t_kept, .int t_isKept, .ref q_t_text, .int t_length, .ref q_t_order, .ref q_t_told, .int t_spot, .int t_toldRows, .ref q_t_rowsTaken, .ref q_t_columnsTaken, .ref q_t_ways, .ref q_t_scaled, .ref q_t_rowFactors, .ref q_t_columnFactors, .ref q_t_rest, .ref q_t_diagonals, .ref q_t_weights])), (q_t_z, .inl (G.2 0, 50, .inl t_z)), (q_t_order, .inl (G.2 0, 7, .inl t_order)), (q_t_rowsTaken, .inl (G.2 0, 7, .inl t_rowsTaken)), (q_t_columnsTaken, .inl (G.2 0, 7, .inl t_columnsTaken))] sz)) (va_Ql (fun r9 (_ : Unit) => r9 = r) (fun _ t => atW G (va_A [(q_t, .inr (9, [.ref q_t_z, .ref q_t_old, .ref q_t_past, .int t_states, .ref q_t_kept, .int t_isKept, .ref q_t_text, .int t_length, .ref q_t_order, .ref q_t_told, .int t_spot, .int t_toldRows, .ref q_t_rowsTaken, .ref q_t_columnsTaken, .ref q_t_ways, .ref q_t_scaled, .ref q_t_rowFactors, .ref q_t_columnFactors, .ref q_t_rest, .ref q_t_diagonals, .ref q_t_weights])), (q_t_z, .inl (G.2 0, 50, .inl t_z)), (q_t_order, .inl (G.2 0, 7, .inl t_order)), (q_t_rowsTaken, .inl (G.2 0, 7, .inl t_rowsTaken)), (q_t_columnsTaken, .inl (G.2 0, 7, .inl t_columnsTaken))] sz) [(q_t, .inr (9, [.ref q_t_z, .ref q_t_old, .ref q_t_past, .int t_states, .ref q_t_kept, .int t_isKept, .ref q_t_text, .int t_length, .ref q_t_order, .ref q_t_told, .int t_spot, .int t_toldRows, .ref q_t_rowsTaken, .ref q_t_columnsTaken, .ref q_t_ways, .ref q_t_scaled, .ref q_t_rowFactors, .ref q_t_columnFactors, .ref q_t_rest, .ref q_t_diagonals, .ref q_t_weights])), (q_t_z, .inl (G.2 0, 50, .inl t_z)), (q_t_order, .inl (G.2 0, 7, .inl o_t_order)), (q_t_rowsTaken, .inl (G.2 0, 7, .inl o_t_rowsTaken)), (q_t_columnsTaken, .inl (G.2 0, 7, .inl o_t_columnsTaken))] t) (va_A [(q_t, .inr (9, [.ref q_t_z, .ref q_t_old, .ref q_t_past, .int t_states, .ref q_t_kept, .int t_isKept, .ref q_t_text, .int t_length, .ref q_t_order, .ref q_t_told, .int t_spot, .int t_toldRows, .ref q_t_rowsTaken, .ref q_t_columnsTaken, .ref q_t_ways, .ref q_t_scaled, .ref q_t_rowFactors, .ref q_t_columnFactors, .ref q_t_rest, .ref q_t_diagonals, .ref q_t_weights])), (q_t_z, .inl (G.2 0, 50, .inl t_z)), (q_t_order, .inl (G.2 0, 7, .inl t_order)), (q_t_rowsTaken, .inl (G.2 0, 7, .inl t_rowsTaken)), (q_t_columnsTaken, .inl (G.2 0, 7, .inl t_columnsTaken))] sz)) 0 0 (va_A [(q_t, .inr (9, [.ref q_t_z, .ref q_t_old, .ref q_t_past, .int t_states, .ref q_t_kept, .int t_isKept, .ref q_t_text, .int t_length, .ref q_t_order, .ref q_t_told, .int t_spot, .int t_toldRows, .ref q_t_rowsTaken, .ref q_t_columnsTaken, .ref q_t_ways, .ref q_t_scaled, .ref q_t_rowFactors, .ref q_t_columnFactors, .ref q_t_rest, .ref q_t_diagonals, .ref q_t_weights])), (q_t_z, .inl (G.2 0, 50, .inl t_z)), (q_t_order, .inl (G.2 0, 7, .inl t_order)), (q_t_rowsTaken, .inl (G.2 0, 7, .inl t_rowsTaken)), (q_t_columnsTaken, .inl (G.2 0, 7, .inl t_columnsTaken))] sz) := by
  refine Met.ofW (cc := cX10_minor) (maxL := 3) (ret := (some .long)) (by decide) rfl ?_
  intro p e s m args below meth c s₁ B hml hv
  obtain ⟨rfl, hsz, hP, hK, hD0⟩ := hv
  subst hsz
  have hD := hD0.self (sz := s.heap.size)
  generalize hAe : va_A [(q_t, .inr (9, [.ref q_t_z, .ref q_t_old, .ref q_t_past, .int t_states, .ref q_t_kept, .int t_isKept, .ref q_t_text, .int t_length, .ref q_t_order, .ref q_t_told, .int t_spot, .int t_toldRows, .ref q_t_rowsTaken, .ref q_t_columnsTaken, .ref q_t_ways, .ref q_t_scaled, .ref q_t_rowFactors, .ref q_t_columnFactors, .ref q_t_rest, .ref q_t_diagonals, .ref q_t_weights])), (q_t_z, .inl (G.2 0, 50, .inl t_z)), (q_t_order, .inl (G.2 0, 7, .inl t_order)), (q_t_rowsTaken, .inl (G.2 0, 7, .inl t_rowsTaken)), (q_t_columnsTaken, .inl (G.2 0, 7, .inl t_columnsTaken))] s.heap.size = A at hD ⊢
  have hA : ∀ q : Nat, s.heap.size ≤ q → A q := fun q h => by rw [← hAe]; exact Or.inr h
  have hl := lv_entry ([.ref q_t, .int a1, .int a2]) (n := 3) (Nat.le_of_ble_eq_true rfl)
  rw [lg_entry_eq]
  refine k_X10_minor ⟨B.exec, B.bytes, hml, findClass_of_methodNamed B.named, atoms_spec (ws := wsX10_minor) B.pre⟩ G hK hA q_t q_t_z q_t_old q_t_past q_t_kept q_t_text q_t_order q_t_told q_t_rowsTaken q_t_columnsTaken q_t_ways q_t_scaled q_t_rowFactors q_t_columnFactors q_t_rest q_t_diagonals q_t_weights _ _ _ _ _ _ _ _ _ _ _ _ _ _ _ h ?_ _ _ _ hP hD va_S.rf hl
  intro H locs ls pc hd hP hD hS
  exact W.lret B.exec B.bytes B.returns (fun t ht hW => ⟨⟨r, (), rfl, rfl, by rw [ht]; exact hP, hD⟩, hS.F ht⟩) hS.2.2 hd B.notSynchronized
def f_X10_bits_L1 (x0 : Int32) : (Int32 × Int32) → Option ((Int32 × Int32) ⊕ Int32)
  | (x1, x2) =>
    if (7 : Int32) ≤ x2 then
      some (.inr x1)
    else
      pl ((x1 + ((x0 >>> (x2 &&& 31)) &&& (1 : Int32))) : Int32) (fun x1_2 =>
      pl ((x2 + (1 : Int32)) : Int32) (fun x2_3 =>
      some (.inl (x1_2, x2_3))))
def f_X10_bits (a1 : Int32) : Option Int32 :=
  (lpN (f_X10_bits_L1 a1) FU ((0 : Int32), (0 : Int32))).bind (fun x1_4 =>
  some x1_4)
set_option maxHeartbeats 4000000 in
set_option maxRecDepth 100000 in
theorem l_X10_bits_1 {p : Program} {l : Launch} {e : Env} {s : State} {m : MethodId} {args : Array Value} {below : List Frame} {meth : Method} {c : Code} {Q : State → Prop} {A0 : Nat → Prop} {H0 : Heap} (C : CallFix p m c cX10_bits 3 s args wsX10_bits RX10) (G : GT) (hK : gK G s) (hA : ∀ q : Nat, H0.size ≤ q → A0 q) (x0 : Int32) (E_x1 : Int32) (K : ∀ (H : Heap) (locs : List Loc) (ls : Array Slot), va_P G.1 vwCl [] H → va_D A0 [] → va_S A0 H0 H locs → lv_has ls 3 [(1, .int E_x1)] → W p l e ({ frames := 0, cells := 0, slots := 0, locals := 0 } : Room) s m args below meth c H locs 0 0 Q (F0 m 24 ls [])) : ∀ (n : Nat) (x1 : Int32) (x2 : Int32), lpN (f_X10_bits_L1 x0) n (x1, x2) = some E_x1 → ∀ (H : Heap) (locs : List Loc) (ls : Array Slot), va_P G.1 vwCl [] H → va_D A0 [] → va_S A0 H0 H locs → lv_has ls 3 [(0, .int x0), (1, .int x1), (2, .int x2)] → W p l e ({ frames := 0, cells := 0, slots := 0, locals := 0 } : Room) s m args below meth c H locs 0 0 Q (F0 m 4 ls []) := by
  obtain ⟨hx, hb, hml, hown, hts⟩ := C
  intro n
  induction n with
  | zero => intro x1 x2 h; exact absurd h (fun h => lp_0 h)
  | succ n ih =>
    intro x1 x2 h H locs ls hP hD hS hl
    obtain ⟨y, h, hk⟩ := lp_s h
    rw [f_X10_bits_L1] at h
    refine lv_iload_n hx hb dX10_bits_4 rfl (lv_at hl 2 rfl) ?_
    refine lv_bipush (v := 7) hx hb dX10_bits_5 (by decide) ?_
    refine lv_icmp_ge (tgt := 24) hx hb dX10_bits_7 (by decide) (fun c_1 => ?_) (fun c_1 => ?_)
    · replace h := it_t h c_1
      obtain rfl := sm1 h
      obtain rfl := sm1 hk
      exact K H locs ls hP hD hS (lv_sub hl [1] rfl)
    · replace h := it_f h c_1
      refine lv_iload_n hx hb dX10_bits_10 rfl (lv_at hl 1 rfl) ?_
      refine lv_iload_n hx hb dX10_bits_11 rfl (lv_at hl 0 rfl) ?_
      refine lv_iload_n hx hb dX10_bits_12 rfl (lv_at hl 2 rfl) ?_
      refine lv_ishr hx hb dX10_bits_13 ?_
      refine lv_iconst (v := 1) hx hb dX10_bits_14 (by decide) ?_
      refine lv_iand hx hb dX10_bits_15 ?_
      refine lv_iadd hx hb dX10_bits_16 ?_
      refine lv_topi (fun x1_2 ex1_2 => ?_)
      replace h := pl_v h ex1_2
      refine lv_istore_n (lv' := [(1, .int x1_2), (0, .int x0), (2, .int x2)]) hx hb dX10_bits_17 rfl hl (by decide) rfl (fun ls hl => ?_)
      obtain ⟨x2_3, ex2_3, h⟩ := pl_ok h
      refine lv_iinc (v := x2_3) (lv' := [(2, .int x2_3), (1, .int x1_2), (0, .int x0)]) hx hb dX10_bits_18 hl (k := 2) rfl (by rw [ex2_3]; rfl) (by decide) rfl (fun ls hl => ?_)
      refine lv_goto (tgt := 4) hx hb dX10_bits_21 (by decide) ?_
      obtain rfl := sm1 h
      exact ih x1_2 x2_3 hk H locs ls hP hD hS (lv_sub hl [2, 1, 0] rfl)
set_option maxHeartbeats 4000000 in
set_option maxRecDepth 100000 in
theorem k_X10_bits {p : Program} {l : Launch} {e : Env} {s : State} {m : MethodId} {args : Array Value} {below : List Frame} {meth : Method} {c : Code} {Q : State → Prop} {A0 : Nat → Prop} {H0 : Heap} (C : CallFix p m c cX10_bits 3 s args wsX10_bits RX10) (G : GT) (hK : gK G s) (hA : ∀ q : Nat, H0.size ≤ q → A0 q) (a1 : Int32) (r : Int32) (h : f_X10_bits a1 = some r) (KR : ∀ (H : Heap) (locs : List Loc) (ls : Array Slot) (pc : Nat), decode cX10_bits pc = .ok (.ireturn, 1) → va_P G.1 vwCl [] H → va_D A0 [] → va_S A0 H0 H locs → W p l e ({ frames := 0, cells := 0, slots := 0, locals := 0 } : Room) s m args below meth c H locs 0 0 Q (F0 m pc ls [.int r])) : ∀ (H : Heap) (locs : List Loc) (ls : Array Slot), va_P G.1 vwCl [] H → va_D A0 [] → va_S A0 H0 H locs → lv_has ls 3 [(0, .int a1)] → W p l e ({ frames := 0, cells := 0, slots := 0, locals := 0 } : Room) s m args below meth c H locs 0 0 Q (F0 m 0 ls []) := by
  obtain ⟨hx, hb, hml, hown, hts⟩ := C
  intro H locs ls hP hD hS hl
  rw [f_X10_bits] at h
  refine lv_iconst (v := 0) hx hb dX10_bits_0 (by decide) ?_
  refine lv_istore_n (lv' := [(1, .int (0 : Int32)), (0, .int a1)]) hx hb dX10_bits_1 rfl hl (by decide) rfl (fun ls hl => ?_)
  refine lv_iconst (v := 0) hx hb dX10_bits_2 (by decide) ?_
  refine lv_istore_n (lv' := [(2, .int (0 : Int32)), (1, .int (0 : Int32)), (0, .int a1)]) hx hb dX10_bits_3 rfl hl (by decide) rfl (fun ls hl => ?_)
  obtain ⟨x1_4, hz_6, h⟩ := bd_ok h
  refine l_X10_bits_1 ⟨hx, hb, hml, hown, hts⟩ G hK hA a1 x1_4 ?_ FU (0 : Int32) (0 : Int32) hz_6 H locs ls hP hD hS (lv_sub hl [2, 1, 0] rfl)
  intro H locs ls hP hD hS hl
  refine lv_iload_n hx hb dX10_bits_24 rfl (lv_at hl 0 rfl) ?_
  obtain rfl := sm1 h
  exact KR H locs ls 25 dX10_bits_25 hP hD hS
set_option maxHeartbeats 4000000 in
set_option maxRecDepth 100000 in
theorem c_X10_bits (l : Launch) (G : GT) (sz : Nat) (a1 : Int32) (r : Int32) (h : f_X10_bits a1 = some r) : Met l yX10_bits wsX10_bits ({ frames := 0, cells := 0, slots := 0, locals := 0 } : Room) (va_Pc [.int a1] (pcW G [] sz)) (va_Qi (fun r9 (_ : Unit) => r9 = r) (fun _ t => atW G (va_A [] sz) [] t) (va_A [] sz)) 0 0 (va_A [] sz) := by
  refine Met.ofW (cc := cX10_bits) (maxL := 3) (ret := (some .int)) (by decide) rfl ?_
  intro p e s m args below meth c s₁ B hml hv
  obtain ⟨rfl, hsz, hP, hK, hD0⟩ := hv
  subst hsz
  have hD := hD0.self (sz := s.heap.size)
  generalize hAe : va_A [] s.heap.size = A at hD ⊢
  have hA : ∀ q : Nat, s.heap.size ≤ q → A q := fun q h => by rw [← hAe]; exact Or.inr h
  have hl := lv_entry ([.int a1]) (n := 3) (Nat.le_of_ble_eq_true rfl)
  rw [lg_entry_eq]
  refine k_X10_bits ⟨B.exec, B.bytes, hml, findClass_of_methodNamed B.named, atoms_spec (ws := wsX10_bits) B.pre⟩ G hK hA _ _ h ?_ _ _ _ hP hD va_S.rf hl
  intro H locs ls pc hd hP hD hS
  exact W.iret B.exec B.bytes B.returns (fun t ht hW => ⟨⟨r, (), rfl, rfl, by rw [ht]; exact hP, hD⟩, hS.F ht⟩) hS.2.2 hd B.notSynchronized
set_option maxRecDepth 20000 in
theorem wd_X10_permanentOf_1 : Cond.constantLong RX10 177 (-9000000000000000001) ∈ wsX10_permanentOf := List.mem_of_getElem? (i := 1) (by decide +kernel)
set_option maxRecDepth 20000 in
theorem wd_X10_permanentOf_2 : Cond.constantLong RX10 183 (-9000000000000000004) ∈ wsX10_permanentOf := List.mem_of_getElem? (i := 2) (by decide +kernel)
def f_X10_permanentOf (t_z : Nat → Int32) (t_order : Nat → Int32) (t_rowsTaken : Nat → Int32) (t_columnsTaken : Nat → Int32) (a1 : Int32) (a2 : Int32) : Option (Int64 × (Nat → Int32) × (Nat → Int32) × (Nat → Int32)) :=
  (f_X10_all t_z).bind (fun r_1 =>
  (f_X10_in a1 (0 : Int32) r_1).bind (fun r_3 =>
  if r_3 = 0 then
    some ((-9000000000000000001 : Int64), t_order, t_rowsTaken, t_columnsTaken)
  else
    (f_X10_all t_z).bind (fun r_6 =>
    (f_X10_in a2 (0 : Int32) r_6).bind (fun r_8 =>
    if r_8 = 0 then
      some ((-9000000000000000001 : Int64), t_order, t_rowsTaken, t_columnsTaken)
    else
      (f_X10_bits a1).bind (fun r_11 =>
      (f_X10_bits a2).bind (fun r_13 =>
      if r_11 = r_13 then
        (f_X10_sumOfSets t_z t_order t_rowsTaken t_columnsTaken a1 a2 (0 : Int32)).bind (fun (r_19, t_order_16, t_rowsTaken_17, t_columnsTaken_18) =>
        some (r_19, t_order_16, t_rowsTaken_17, t_columnsTaken_18))
      else
        some ((-9000000000000000004 : Int64), t_order, t_rowsTaken, t_columnsTaken)))))))
set_option maxHeartbeats 4000000 in
set_option maxRecDepth 100000 in
theorem k_X10_permanentOf {p : Program} {l : Launch} {e : Env} {s : State} {m : MethodId} {args : Array Value} {below : List Frame} {meth : Method} {c : Code} {Q : State → Prop} {A0 : Nat → Prop} {H0 : Heap} (C : CallFix p m c cX10_permanentOf 3 s args wsX10_permanentOf RX10) (G : GT) (hK : gK G s) (hA : ∀ q : Nat, H0.size ≤ q → A0 q) (q_t q_t_z q_t_old q_t_past q_t_kept q_t_text q_t_order q_t_told q_t_rowsTaken q_t_columnsTaken q_t_ways q_t_scaled q_t_rowFactors q_t_columnFactors q_t_rest q_t_diagonals q_t_weights : Nat) (t_states : Int32) (t_isKept : Int32) (t_length : Int32) (t_spot : Int32) (t_toldRows : Int32) (t_z : Nat → Int32) (t_order : Nat → Int32) (t_rowsTaken : Nat → Int32) (t_columnsTaken : Nat → Int32) (a1 : Int32) (a2 : Int32) (r : Int64) (o_t_order : Nat → Int32) (o_t_rowsTaken : Nat → Int32) (o_t_columnsTaken : Nat → Int32) (h : f_X10_permanentOf t_z t_order t_rowsTaken t_columnsTaken a1 a2 = some (r, o_t_order, o_t_rowsTaken, o_t_columnsTaken)) (KR : ∀ (H : Heap) (locs : List Loc) (ls : Array Slot) (pc : Nat), decode cX10_permanentOf pc = .ok (.lreturn, 1) → va_P G.1 vwCl [(q_t, .inr (9, [.ref q_t_z, .ref q_t_old, .ref q_t_past, .int t_states, .ref q_t_kept, .int t_isKept, .ref q_t_text, .int t_length, .ref q_t_order, .ref q_t_told, .int t_spot, .int t_toldRows, .ref q_t_rowsTaken, .ref q_t_columnsTaken, .ref q_t_ways, .ref q_t_scaled, .ref q_t_rowFactors, .ref q_t_columnFactors, .ref q_t_rest, .ref q_t_diagonals, .ref q_t_weights])), (q_t_z, .inl (G.2 0, 50, .inl t_z)), (q_t_order, .inl (G.2 0, 7, .inl o_t_order)), (q_t_rowsTaken, .inl (G.2 0, 7, .inl o_t_rowsTaken)), (q_t_columnsTaken, .inl (G.2 0, 7, .inl o_t_columnsTaken))] H → va_D A0 [(q_t, .inr (9, [.ref q_t_z, .ref q_t_old, .ref q_t_past, .int t_states, .ref q_t_kept, .int t_isKept, .ref q_t_text, .int t_length, .ref q_t_order, .ref q_t_told, .int t_spot, .int t_toldRows, .ref q_t_rowsTaken, .ref q_t_columnsTaken, .ref q_t_ways, .ref q_t_scaled, .ref q_t_rowFactors, .ref q_t_columnFactors, .ref q_t_rest, .ref q_t_diagonals, .ref q_t_weights])), (q_t_z, .inl (G.2 0, 50, .inl t_z)), (q_t_order, .inl (G.2 0, 7, .inl o_t_order)), (q_t_rowsTaken, .inl (G.2 0, 7, .inl o_t_rowsTaken)), (q_t_columnsTaken, .inl (G.2 0, 7, .inl o_t_columnsTaken))] → va_S A0 H0 H locs → W p l e ({ frames := 3, cells := 0, slots := 0, locals := 77 } : Room) s m args below meth c H locs 0 0 Q (F0 m pc ls [.long r])) : ∀ (H : Heap) (locs : List Loc) (ls : Array Slot), va_P G.1 vwCl [(q_t, .inr (9, [.ref q_t_z, .ref q_t_old, .ref q_t_past, .int t_states, .ref q_t_kept, .int t_isKept, .ref q_t_text, .int t_length, .ref q_t_order, .ref q_t_told, .int t_spot, .int t_toldRows, .ref q_t_rowsTaken, .ref q_t_columnsTaken, .ref q_t_ways, .ref q_t_scaled, .ref q_t_rowFactors, .ref q_t_columnFactors, .ref q_t_rest, .ref q_t_diagonals, .ref q_t_weights])), (q_t_z, .inl (G.2 0, 50, .inl t_z)), (q_t_order, .inl (G.2 0, 7, .inl t_order)), (q_t_rowsTaken, .inl (G.2 0, 7, .inl t_rowsTaken)), (q_t_columnsTaken, .inl (G.2 0, 7, .inl t_columnsTaken))] H → va_D A0 [(q_t, .inr (9, [.ref q_t_z, .ref q_t_old, .ref q_t_past, .int t_states, .ref q_t_kept, .int t_isKept, .ref q_t_text, .int t_length, .ref q_t_order, .ref q_t_told, .int t_spot, .int t_toldRows, .ref q_t_rowsTaken, .ref q_t_columnsTaken, .ref q_t_ways, .ref q_t_scaled, .ref q_t_rowFactors, .ref q_t_columnFactors, .ref q_t_rest, .ref q_t_diagonals, .ref q_t_weights])), (q_t_z, .inl (G.2 0, 50, .inl t_z)), (q_t_order, .inl (G.2 0, 7, .inl t_order)), (q_t_rowsTaken, .inl (G.2 0, 7, .inl t_rowsTaken)), (q_t_columnsTaken, .inl (G.2 0, 7, .inl t_columnsTaken))] → va_S A0 H0 H locs → lv_has ls 3 [(0, .ref q_t), (1, .int a1), (2, .int a2)] → W p l e ({ frames := 3, cells := 0, slots := 0, locals := 77 } : Room) s m args below meth c H locs 0 0 Q (F0 m 0 ls []) := by
  obtain ⟨hx, hb, hml, hown, hts⟩ := C
  intro H locs ls hP hD hS hl
  rw [f_X10_permanentOf] at h
  refine lv_iload_n hx hb dX10_permanentOf_0 rfl (lv_at hl 1 rfl) ?_
  refine lv_iconst (v := 0) hx hb dX10_permanentOf_1 (by decide) ?_
  refine lv_aload_n hx hb dX10_permanentOf_2 rfl (lv_at hl 0 rfl) ?_
  obtain ⟨r_1, hf_2, h⟩ := bd_ok h
  refine ck_Vi (rest := [.int (0 : Int32), .int a1]) (wn := [(q_t, .inr (9, [.ref q_t_z, .ref q_t_old, .ref q_t_past, .int t_states, .ref q_t_kept, .int t_isKept, .ref q_t_text, .int t_length, .ref q_t_order, .ref q_t_told, .int t_spot, .int t_toldRows, .ref q_t_rowsTaken, .ref q_t_columnsTaken, .ref q_t_ways, .ref q_t_scaled, .ref q_t_rowFactors, .ref q_t_columnFactors, .ref q_t_rest, .ref q_t_diagonals, .ref q_t_weights])), (q_t_z, .inl (G.2 0, 50, .inl t_z)), (q_t_order, .inl (G.2 0, 7, .inl t_order)), (q_t_rowsTaken, .inl (G.2 0, 7, .inl t_rowsTaken)), (q_t_columnsTaken, .inl (G.2 0, 7, .inl t_columnsTaken))]) ⟨hx, hb, hml, hown, hts⟩ hK hP hD hS hA [0, 1] [2, 3, 4] [3, 4, 0, 1, 2] (c_X10_all l G q_t q_t_z q_t_old q_t_past q_t_kept q_t_text q_t_order q_t_told q_t_rowsTaken q_t_columnsTaken q_t_ways q_t_scaled q_t_rowFactors q_t_columnFactors q_t_rest q_t_diagonals q_t_weights _ t_states t_isKept t_length t_spot t_toldRows t_z _ hf_2) (cwV 0 hts gX10_permanentOf_X10_all rfl rfl rfl (by decide +kernel) ⟨Nat.le_of_ble_eq_true rfl, Nat.le_of_ble_eq_true rfl⟩) rfl rfl rfl rfl rfl rfl (by decide) rfl rfl rfl hl.1 rfl (Nat.le_of_ble_eq_true rfl) dX10_permanentOf_3 ⟨Nat.zero_le _, Nat.zero_le _⟩ (fun H locs hP hD hS => ?_)
  obtain ⟨r_3, hf_4, h⟩ := bd_ok h
  refine ck_Si (rest := []) (wn := [(q_t, .inr (9, [.ref q_t_z, .ref q_t_old, .ref q_t_past, .int t_states, .ref q_t_kept, .int t_isKept, .ref q_t_text, .int t_length, .ref q_t_order, .ref q_t_told, .int t_spot, .int t_toldRows, .ref q_t_rowsTaken, .ref q_t_columnsTaken, .ref q_t_ways, .ref q_t_scaled, .ref q_t_rowFactors, .ref q_t_columnFactors, .ref q_t_rest, .ref q_t_diagonals, .ref q_t_weights])), (q_t_z, .inl (G.2 0, 50, .inl t_z)), (q_t_order, .inl (G.2 0, 7, .inl t_order)), (q_t_rowsTaken, .inl (G.2 0, 7, .inl t_rowsTaken)), (q_t_columnsTaken, .inl (G.2 0, 7, .inl t_columnsTaken))]) ⟨hx, hb, hml, hown, hts⟩ hK hP hD hS hA [] [0, 1, 2, 3, 4] [0, 1, 2, 3, 4] (c_X10_in l G _ a1 (0 : Int32) r_1 _ hf_4) (cwS 3 hts gX10_permanentOf_X10_in rfl rfl rfl (by decide +kernel) ⟨Nat.le_of_ble_eq_true rfl, Nat.le_of_ble_eq_true rfl⟩) rfl rfl rfl rfl (by decide) rfl rfl rfl hl.1 rfl (Nat.le_of_ble_eq_true rfl) dX10_permanentOf_6 ⟨Nat.zero_le _, Nat.zero_le _⟩ (fun H locs hP hD hS => ?_)
  refine lv_if_eq (tgt := 24) hx hb dX10_permanentOf_9 (by decide) (fun c_5 => ?_) (fun c_5 => ?_)
  · replace h := it_t h c_5
    refine lv_ldc2 (v := -9000000000000000001) hx hb hown (hts _ wd_X10_permanentOf_1) dX10_permanentOf_24 ?_
    obtain ⟨rfl, rfl, rfl, rfl⟩ := sm4 h
    exact KR H locs ls 27 dX10_permanentOf_27 hP hD hS
  · replace h := it_f h c_5
    refine lv_iload_n hx hb dX10_permanentOf_12 rfl (lv_at hl 2 rfl) ?_
    refine lv_iconst (v := 0) hx hb dX10_permanentOf_13 (by decide) ?_
    refine lv_aload_n hx hb dX10_permanentOf_14 rfl (lv_at hl 0 rfl) ?_
    obtain ⟨r_6, hf_7, h⟩ := bd_ok h
    refine ck_Vi (rest := [.int (0 : Int32), .int a2]) (wn := [(q_t, .inr (9, [.ref q_t_z, .ref q_t_old, .ref q_t_past, .int t_states, .ref q_t_kept, .int t_isKept, .ref q_t_text, .int t_length, .ref q_t_order, .ref q_t_told, .int t_spot, .int t_toldRows, .ref q_t_rowsTaken, .ref q_t_columnsTaken, .ref q_t_ways, .ref q_t_scaled, .ref q_t_rowFactors, .ref q_t_columnFactors, .ref q_t_rest, .ref q_t_diagonals, .ref q_t_weights])), (q_t_z, .inl (G.2 0, 50, .inl t_z)), (q_t_order, .inl (G.2 0, 7, .inl t_order)), (q_t_rowsTaken, .inl (G.2 0, 7, .inl t_rowsTaken)), (q_t_columnsTaken, .inl (G.2 0, 7, .inl t_columnsTaken))]) ⟨hx, hb, hml, hown, hts⟩ hK hP hD hS hA [0, 1] [2, 3, 4] [3, 4, 0, 1, 2] (c_X10_all l G q_t q_t_z q_t_old q_t_past q_t_kept q_t_text q_t_order q_t_told q_t_rowsTaken q_t_columnsTaken q_t_ways q_t_scaled q_t_rowFactors q_t_columnFactors q_t_rest q_t_diagonals q_t_weights _ t_states t_isKept t_length t_spot t_toldRows t_z _ hf_7) (cwV 0 hts gX10_permanentOf_X10_all rfl rfl rfl (by decide +kernel) ⟨Nat.le_of_ble_eq_true rfl, Nat.le_of_ble_eq_true rfl⟩) rfl rfl rfl rfl rfl rfl (by decide) rfl rfl rfl hl.1 rfl (Nat.le_of_ble_eq_true rfl) dX10_permanentOf_15 ⟨Nat.zero_le _, Nat.zero_le _⟩ (fun H locs hP hD hS => ?_)
    obtain ⟨r_8, hf_9, h⟩ := bd_ok h
    refine ck_Si (rest := []) (wn := [(q_t, .inr (9, [.ref q_t_z, .ref q_t_old, .ref q_t_past, .int t_states, .ref q_t_kept, .int t_isKept, .ref q_t_text, .int t_length, .ref q_t_order, .ref q_t_told, .int t_spot, .int t_toldRows, .ref q_t_rowsTaken, .ref q_t_columnsTaken, .ref q_t_ways, .ref q_t_scaled, .ref q_t_rowFactors, .ref q_t_columnFactors, .ref q_t_rest, .ref q_t_diagonals, .ref q_t_weights])), (q_t_z, .inl (G.2 0, 50, .inl t_z)), (q_t_order, .inl (G.2 0, 7, .inl t_order)), (q_t_rowsTaken, .inl (G.2 0, 7, .inl t_rowsTaken)), (q_t_columnsTaken, .inl (G.2 0, 7, .inl t_columnsTaken))]) ⟨hx, hb, hml, hown, hts⟩ hK hP hD hS hA [] [0, 1, 2, 3, 4] [0, 1, 2, 3, 4] (c_X10_in l G _ a2 (0 : Int32) r_6 _ hf_9) (cwS 3 hts gX10_permanentOf_X10_in rfl rfl rfl (by decide +kernel) ⟨Nat.le_of_ble_eq_true rfl, Nat.le_of_ble_eq_true rfl⟩) rfl rfl rfl rfl (by decide) rfl rfl rfl hl.1 rfl (Nat.le_of_ble_eq_true rfl) dX10_permanentOf_18 ⟨Nat.zero_le _, Nat.zero_le _⟩ (fun H locs hP hD hS => ?_)
    refine lv_if_ne (tgt := 28) hx hb dX10_permanentOf_21 (by decide) (fun c_10 => ?_) (fun c_10 => ?_)
    · replace h := it_f h c_10
      refine lv_iload_n hx hb dX10_permanentOf_28 rfl (lv_at hl 1 rfl) ?_
      obtain ⟨r_11, hf_12, h⟩ := bd_ok h
      refine ck_Si (rest := []) (wn := [(q_t, .inr (9, [.ref q_t_z, .ref q_t_old, .ref q_t_past, .int t_states, .ref q_t_kept, .int t_isKept, .ref q_t_text, .int t_length, .ref q_t_order, .ref q_t_told, .int t_spot, .int t_toldRows, .ref q_t_rowsTaken, .ref q_t_columnsTaken, .ref q_t_ways, .ref q_t_scaled, .ref q_t_rowFactors, .ref q_t_columnFactors, .ref q_t_rest, .ref q_t_diagonals, .ref q_t_weights])), (q_t_z, .inl (G.2 0, 50, .inl t_z)), (q_t_order, .inl (G.2 0, 7, .inl t_order)), (q_t_rowsTaken, .inl (G.2 0, 7, .inl t_rowsTaken)), (q_t_columnsTaken, .inl (G.2 0, 7, .inl t_columnsTaken))]) ⟨hx, hb, hml, hown, hts⟩ hK hP hD hS hA [] [0, 1, 2, 3, 4] [0, 1, 2, 3, 4] (c_X10_bits l G _ a1 _ hf_12) (cwS 1 hts gX10_permanentOf_X10_bits rfl rfl rfl (by decide +kernel) ⟨Nat.le_of_ble_eq_true rfl, Nat.le_of_ble_eq_true rfl⟩) rfl rfl rfl rfl (by decide) rfl rfl rfl hl.1 rfl (Nat.le_of_ble_eq_true rfl) dX10_permanentOf_29 ⟨Nat.zero_le _, Nat.zero_le _⟩ (fun H locs hP hD hS => ?_)
      refine lv_iload_n hx hb dX10_permanentOf_32 rfl (lv_at hl 2 rfl) ?_
      obtain ⟨r_13, hf_14, h⟩ := bd_ok h
      refine ck_Si (rest := [.int r_11]) (wn := [(q_t, .inr (9, [.ref q_t_z, .ref q_t_old, .ref q_t_past, .int t_states, .ref q_t_kept, .int t_isKept, .ref q_t_text, .int t_length, .ref q_t_order, .ref q_t_told, .int t_spot, .int t_toldRows, .ref q_t_rowsTaken, .ref q_t_columnsTaken, .ref q_t_ways, .ref q_t_scaled, .ref q_t_rowFactors, .ref q_t_columnFactors, .ref q_t_rest, .ref q_t_diagonals, .ref q_t_weights])), (q_t_z, .inl (G.2 0, 50, .inl t_z)), (q_t_order, .inl (G.2 0, 7, .inl t_order)), (q_t_rowsTaken, .inl (G.2 0, 7, .inl t_rowsTaken)), (q_t_columnsTaken, .inl (G.2 0, 7, .inl t_columnsTaken))]) ⟨hx, hb, hml, hown, hts⟩ hK hP hD hS hA [] [0, 1, 2, 3, 4] [0, 1, 2, 3, 4] (c_X10_bits l G _ a2 _ hf_14) (cwS 1 hts gX10_permanentOf_X10_bits rfl rfl rfl (by decide +kernel) ⟨Nat.le_of_ble_eq_true rfl, Nat.le_of_ble_eq_true rfl⟩) rfl rfl rfl rfl (by decide) rfl rfl rfl hl.1 rfl (Nat.le_of_ble_eq_true rfl) dX10_permanentOf_33 ⟨Nat.zero_le _, Nat.zero_le _⟩ (fun H locs hP hD hS => ?_)
      refine lv_icmp_ne (tgt := 49) hx hb dX10_permanentOf_36 (by decide) (fun c_15 => ?_) (fun c_15 => ?_)
      · replace h := it_f h c_15
        refine lv_ldc2 (v := -9000000000000000004) hx hb hown (hts _ wd_X10_permanentOf_2) dX10_permanentOf_49 ?_
        obtain ⟨rfl, rfl, rfl, rfl⟩ := sm4 h
        exact KR H locs ls 52 dX10_permanentOf_52 hP hD hS
      · replace h := it_t h c_15
        refine lv_aload_n hx hb dX10_permanentOf_39 rfl (lv_at hl 0 rfl) ?_
        refine lv_iload_n hx hb dX10_permanentOf_40 rfl (lv_at hl 1 rfl) ?_
        refine lv_iload_n hx hb dX10_permanentOf_41 rfl (lv_at hl 2 rfl) ?_
        refine lv_iconst (v := 0) hx hb dX10_permanentOf_42 (by decide) ?_
        obtain ⟨⟨r_19, t_order_16, t_rowsTaken_17, t_columnsTaken_18⟩, hf_20, h⟩ := bd_ok h
        refine ck_Vl (rest := []) (wn := [(q_t, .inr (9, [.ref q_t_z, .ref q_t_old, .ref q_t_past, .int t_states, .ref q_t_kept, .int t_isKept, .ref q_t_text, .int t_length, .ref q_t_order, .ref q_t_told, .int t_spot, .int t_toldRows, .ref q_t_rowsTaken, .ref q_t_columnsTaken, .ref q_t_ways, .ref q_t_scaled, .ref q_t_rowFactors, .ref q_t_columnFactors, .ref q_t_rest, .ref q_t_diagonals, .ref q_t_weights])), (q_t_z, .inl (G.2 0, 50, .inl t_z)), (q_t_order, .inl (G.2 0, 7, .inl t_order_16)), (q_t_rowsTaken, .inl (G.2 0, 7, .inl t_rowsTaken_17)), (q_t_columnsTaken, .inl (G.2 0, 7, .inl t_columnsTaken_18))]) ⟨hx, hb, hml, hown, hts⟩ hK hP hD hS hA [0, 1, 2, 3, 4] [] [0, 1, 2, 3, 4] (c_X10_sumOfSets l G q_t q_t_z q_t_old q_t_past q_t_kept q_t_text q_t_order q_t_told q_t_rowsTaken q_t_columnsTaken q_t_ways q_t_scaled q_t_rowFactors q_t_columnFactors q_t_rest q_t_diagonals q_t_weights _ t_states t_isKept t_length t_spot t_toldRows t_z t_order t_rowsTaken t_columnsTaken a1 a2 (0 : Int32) _ _ _ _ hf_20) (cwV 3 hts gX10_permanentOf_X10_sumOfSets rfl rfl rfl (by decide +kernel) ⟨Nat.le_of_ble_eq_true rfl, Nat.le_of_ble_eq_true rfl⟩) rfl rfl rfl rfl rfl rfl (by decide) rfl rfl rfl hl.1 rfl (Nat.le_of_ble_eq_true rfl) dX10_permanentOf_43 ⟨Nat.zero_le _, Nat.zero_le _⟩ (fun H locs hP hD hS => ?_)
        refine lv_goto (tgt := 52) hx hb dX10_permanentOf_46 (by decide) ?_
        obtain ⟨rfl, rfl, rfl, rfl⟩ := sm4 h
        exact KR H locs ls 52 dX10_permanentOf_52 hP hD hS
    · replace h := it_t h c_10
      refine lv_ldc2 (v := -9000000000000000001) hx hb hown (hts _ wd_X10_permanentOf_1) dX10_permanentOf_24 ?_
      obtain ⟨rfl, rfl, rfl, rfl⟩ := sm4 h
      exact KR H locs ls 27 dX10_permanentOf_27 hP hD hS
set_option maxHeartbeats 4000000 in
set_option maxRecDepth 100000 in
theorem c_X10_permanentOf (l : Launch) (G : GT) (q_t q_t_z q_t_old q_t_past q_t_kept q_t_text q_t_order q_t_told q_t_rowsTaken q_t_columnsTaken q_t_ways q_t_scaled q_t_rowFactors q_t_columnFactors q_t_rest q_t_diagonals q_t_weights : Nat) (sz : Nat) (t_states : Int32) (t_isKept : Int32) (t_length : Int32) (t_spot : Int32) (t_toldRows : Int32) (t_z : Nat → Int32) (t_order : Nat → Int32) (t_rowsTaken : Nat → Int32) (t_columnsTaken : Nat → Int32) (a1 : Int32) (a2 : Int32) (r : Int64) (o_t_order : Nat → Int32) (o_t_rowsTaken : Nat → Int32) (o_t_columnsTaken : Nat → Int32) (h : f_X10_permanentOf t_z t_order t_rowsTaken t_columnsTaken a1 a2 = some (r, o_t_order, o_t_rowsTaken, o_t_columnsTaken)) : Met l yX10_permanentOf wsX10_permanentOf ({ frames := 3, cells := 0, slots := 0, locals := 77 } : Room) (va_Pc [.ref q_t, .int a1, .int a2] (pcW G [(q_t, .inr (9, [.ref q_t_z, .ref q_t_old, .ref q_t_past, .int t_states, .ref q_t_kept, .int t_isKept, .ref q_t_text, .int t_length, .ref q_t_order, .ref q_t_told, .int t_spot, .int t_toldRows, .ref q_t_rowsTaken, .ref q_t_columnsTaken, .ref q_t_ways, .ref q_t_scaled, .ref q_t_rowFactors, .ref q_t_columnFactors, .ref q_t_rest, .ref q_t_diagonals, .ref q_t_weights])), (q_t_z, .inl (G.2 0, 50, .inl t_z)), (q_t_order, .inl (G.2 0, 7, .inl t_order)), (q_t_rowsTaken, .inl (G.2 0, 7, .inl t_rowsTaken)), (q_t_columnsTaken, .inl (G.2 0, 7, .inl t_columnsTaken))] sz)) (va_Ql (fun r9 (_ : Unit) => r9 = r) (fun _ t => atW G (va_A [(q_t, .inr (9, [.ref q_t_z, .ref q_t_old, .ref q_t_past, .int t_states, .ref q_t_kept, .int t_isKept, .ref q_t_text, .int t_length, .ref q_t_order, .ref q_t_told, .int t_spot, .int t_toldRows, .ref q_t_rowsTaken, .ref q_t_columnsTaken, .ref q_t_ways, .ref q_t_scaled, .ref q_t_rowFactors, .ref q_t_columnFactors, .ref q_t_rest, .ref q_t_diagonals, .ref q_t_weights])), (q_t_z, .inl (G.2 0, 50, .inl t_z)), (q_t_order, .inl (G.2 0, 7, .inl t_order)), (q_t_rowsTaken, .inl (G.2 0, 7, .inl t_rowsTaken)), (q_t_columnsTaken, .inl (G.2 0, 7, .inl t_columnsTaken))] sz) [(q_t, .inr (9, [.ref q_t_z, .ref q_t_old, .ref q_t_past, .int t_states, .ref q_t_kept, .int t_isKept, .ref q_t_text, .int t_length, .ref q_t_order, .ref q_t_told, .int t_spot, .int t_toldRows, .ref q_t_rowsTaken, .ref q_t_columnsTaken, .ref q_t_ways, .ref q_t_scaled, .ref q_t_rowFactors, .ref q_t_columnFactors, .ref q_t_rest, .ref q_t_diagonals, .ref q_t_weights])), (q_t_z, .inl (G.2 0, 50, .inl t_z)), (q_t_order, .inl (G.2 0, 7, .inl o_t_order)), (q_t_rowsTaken, .inl (G.2 0, 7, .inl o_t_rowsTaken)), (q_t_columnsTaken, .inl (G.2 0, 7, .inl o_t_columnsTaken))] t) (va_A [(q_t, .inr (9, [.ref q_t_z, .ref q_t_old, .ref q_t_past, .int t_states, .ref q_t_kept, .int t_isKept, .ref q_t_text, .int t_length, .ref q_t_order, .ref q_t_told, .int t_spot, .int t_toldRows, .ref q_t_rowsTaken, .ref q_t_columnsTaken, .ref q_t_ways, .ref q_t_scaled, .ref q_t_rowFactors, .ref q_t_columnFactors, .ref q_t_rest, .ref q_t_diagonals, .ref q_t_weights])), (q_t_z, .inl (G.2 0, 50, .inl t_z)), (q_t_order, .inl (G.2 0, 7, .inl t_order)), (q_t_rowsTaken, .inl (G.2 0, 7, .inl t_rowsTaken)), (q_t_columnsTaken, .inl (G.2 0, 7, .inl t_columnsTaken))] sz)) 0 0 (va_A [(q_t, .inr (9, [.ref q_t_z, .ref q_t_old, .ref q_t_past, .int t_states, .ref q_t_kept, .int t_isKept, .ref q_t_text, .int t_length, .ref q_t_order, .ref q_t_told, .int t_spot, .int t_toldRows, .ref q_t_rowsTaken, .ref q_t_columnsTaken, .ref q_t_ways, .ref q_t_scaled, .ref q_t_rowFactors, .ref q_t_columnFactors, .ref q_t_rest, .ref q_t_diagonals, .ref q_t_weights])), (q_t_z, .inl (G.2 0, 50, .inl t_z)), (q_t_order, .inl (G.2 0, 7, .inl t_order)), (q_t_rowsTaken, .inl (G.2 0, 7, .inl t_rowsTaken)), (q_t_columnsTaken, .inl (G.2 0, 7, .inl t_columnsTaken))] sz) := by
  refine Met.ofW (cc := cX10_permanentOf) (maxL := 3) (ret := (some .long)) (by decide) rfl ?_
  intro p e s m args below meth c s₁ B hml hv
  obtain ⟨rfl, hsz, hP, hK, hD0⟩ := hv
  subst hsz
  have hD := hD0.self (sz := s.heap.size)
  generalize hAe : va_A [(q_t, .inr (9, [.ref q_t_z, .ref q_t_old, .ref q_t_past, .int t_states, .ref q_t_kept, .int t_isKept, .ref q_t_text, .int t_length, .ref q_t_order, .ref q_t_told, .int t_spot, .int t_toldRows, .ref q_t_rowsTaken, .ref q_t_columnsTaken, .ref q_t_ways, .ref q_t_scaled, .ref q_t_rowFactors, .ref q_t_columnFactors, .ref q_t_rest, .ref q_t_diagonals, .ref q_t_weights])), (q_t_z, .inl (G.2 0, 50, .inl t_z)), (q_t_order, .inl (G.2 0, 7, .inl t_order)), (q_t_rowsTaken, .inl (G.2 0, 7, .inl t_rowsTaken)), (q_t_columnsTaken, .inl (G.2 0, 7, .inl t_columnsTaken))] s.heap.size = A at hD ⊢
  have hA : ∀ q : Nat, s.heap.size ≤ q → A q := fun q h => by rw [← hAe]; exact Or.inr h
  have hl := lv_entry ([.ref q_t, .int a1, .int a2]) (n := 3) (Nat.le_of_ble_eq_true rfl)
  rw [lg_entry_eq]
  refine k_X10_permanentOf ⟨B.exec, B.bytes, hml, findClass_of_methodNamed B.named, atoms_spec (ws := wsX10_permanentOf) B.pre⟩ G hK hA q_t q_t_z q_t_old q_t_past q_t_kept q_t_text q_t_order q_t_told q_t_rowsTaken q_t_columnsTaken q_t_ways q_t_scaled q_t_rowFactors q_t_columnFactors q_t_rest q_t_diagonals q_t_weights _ _ _ _ _ _ _ _ _ _ _ _ _ _ _ h ?_ _ _ _ hP hD va_S.rf hl
  intro H locs ls pc hd hP hD hS
  exact W.lret B.exec B.bytes B.returns (fun t ht hW => ⟨⟨r, (), rfl, rfl, by rw [ht]; exact hP, hD⟩, hS.F ht⟩) hS.2.2 hd B.notSynchronized
def f_X10_sumOfAll_L2 (x1 : Int32) (x2 : Int32) (x5 : Int32) (t_z : Nat → Int32) : (Int64 × Int32 × (Nat → Int32) × (Nat → Int32) × (Nat → Int32)) → Option ((Int64 × Int32 × (Nat → Int32) × (Nat → Int32) × (Nat → Int32)) ⊕ (Int64 × (Nat → Int32) × (Nat → Int32) × (Nat → Int32)))
  | (x3, x6, t_order, t_rowsTaken, t_columnsTaken) =>
    (f_X10_all t_z).bind (fun r_4 =>
    if r_4 < x6 then
      some (.inr (x3, t_order, t_rowsTaken, t_columnsTaken))
    else
      (f_X10_bits x5).bind (fun r_7 =>
      if r_7 = x1 then
        (f_X10_bits x6).bind (fun r_10 =>
        if r_10 = x1 then
          (f_X10_sumOfSets t_z t_order t_rowsTaken t_columnsTaken x5 x6 x2).bind (fun (r_18, t_order_15, t_rowsTaken_16, t_columnsTaken_17) =>
          pl ((x3 + r_18) : Int64) (fun x3_20 =>
          pl ((x6 + (1 : Int32)) : Int32) (fun x6_21 =>
          some (.inl (x3_20, x6_21, t_order_15, t_rowsTaken_16, t_columnsTaken_17)))))
        else
          pl ((x3 + (0 : Int64)) : Int64) (fun x3_13 =>
          pl ((x6 + (1 : Int32)) : Int32) (fun x6_14 =>
          some (.inl (x3_13, x6_14, t_order, t_rowsTaken, t_columnsTaken)))))
      else
        some (.inr (x3, t_order, t_rowsTaken, t_columnsTaken))))
def f_X10_sumOfAll_L1 (x1 : Int32) (x2 : Int32) (t_z : Nat → Int32) : (Int64 × Int32 × (Nat → Int32) × (Nat → Int32) × (Nat → Int32)) → Option ((Int64 × Int32 × (Nat → Int32) × (Nat → Int32) × (Nat → Int32)) ⊕ (Int64 × (Nat → Int32) × (Nat → Int32) × (Nat → Int32)))
  | (x3, x5, t_order, t_rowsTaken, t_columnsTaken) =>
    (f_X10_all t_z).bind (fun r_1 =>
    if r_1 < x5 then
      some (.inr (x3, t_order, t_rowsTaken, t_columnsTaken))
    else
      (lpN (f_X10_sumOfAll_L2 x1 x2 x5 t_z) FU (x3, (0 : Int32), t_order, t_rowsTaken, t_columnsTaken)).bind (fun (x3_22, t_order_23, t_rowsTaken_24, t_columnsTaken_25) =>
      pl ((x5 + (1 : Int32)) : Int32) (fun x5_28 =>
      some (.inl (x3_22, x5_28, t_order_23, t_rowsTaken_24, t_columnsTaken_25)))))
def f_X10_sumOfAll (t_z : Nat → Int32) (t_order : Nat → Int32) (t_rowsTaken : Nat → Int32) (t_columnsTaken : Nat → Int32) (a1 : Int32) (a2 : Int32) : Option (Int64 × (Nat → Int32) × (Nat → Int32) × (Nat → Int32)) :=
  (lpN (f_X10_sumOfAll_L1 a1 a2 t_z) FU ((0 : Int64), (0 : Int32), t_order, t_rowsTaken, t_columnsTaken)).bind (fun (x3_29, t_order_30, t_rowsTaken_31, t_columnsTaken_32) =>
  some (x3_29, t_order_30, t_rowsTaken_31, t_columnsTaken_32))
set_option maxHeartbeats 4000000 in
set_option maxRecDepth 100000 in
theorem l_X10_sumOfAll_2 {p : Program} {l : Launch} {e : Env} {s : State} {m : MethodId} {args : Array Value} {below : List Frame} {meth : Method} {c : Code} {Q : State → Prop} {A0 : Nat → Prop} {H0 : Heap} (C : CallFix p m c cX10_sumOfAll 7 s args wsX10_sumOfAll RX10) (G : GT) (hK : gK G s) (hA : ∀ q : Nat, H0.size ≤ q → A0 q) (q_t q_t_z q_t_old q_t_past q_t_kept q_t_text q_t_order q_t_told q_t_rowsTaken q_t_columnsTaken q_t_ways q_t_scaled q_t_rowFactors q_t_columnFactors q_t_rest q_t_diagonals q_t_weights : Nat) (x1 : Int32) (x2 : Int32) (x5 : Int32) (t_states : Int32) (t_isKept : Int32) (t_length : Int32) (t_spot : Int32) (t_toldRows : Int32) (t_z : Nat → Int32) (E_x3 : Int64) (E_t_order : Nat → Int32) (E_t_rowsTaken : Nat → Int32) (E_t_columnsTaken : Nat → Int32) (K : ∀ (H : Heap) (locs : List Loc) (ls : Array Slot), va_P G.1 vwCl [(q_t, .inr (9, [.ref q_t_z, .ref q_t_old, .ref q_t_past, .int t_states, .ref q_t_kept, .int t_isKept, .ref q_t_text, .int t_length, .ref q_t_order, .ref q_t_told, .int t_spot, .int t_toldRows, .ref q_t_rowsTaken, .ref q_t_columnsTaken, .ref q_t_ways, .ref q_t_scaled, .ref q_t_rowFactors, .ref q_t_columnFactors, .ref q_t_rest, .ref q_t_diagonals, .ref q_t_weights])), (q_t_z, .inl (G.2 0, 50, .inl t_z)), (q_t_order, .inl (G.2 0, 7, .inl E_t_order)), (q_t_rowsTaken, .inl (G.2 0, 7, .inl E_t_rowsTaken)), (q_t_columnsTaken, .inl (G.2 0, 7, .inl E_t_columnsTaken))] H → va_D A0 [(q_t, .inr (9, [.ref q_t_z, .ref q_t_old, .ref q_t_past, .int t_states, .ref q_t_kept, .int t_isKept, .ref q_t_text, .int t_length, .ref q_t_order, .ref q_t_told, .int t_spot, .int t_toldRows, .ref q_t_rowsTaken, .ref q_t_columnsTaken, .ref q_t_ways, .ref q_t_scaled, .ref q_t_rowFactors, .ref q_t_columnFactors, .ref q_t_rest, .ref q_t_diagonals, .ref q_t_weights])), (q_t_z, .inl (G.2 0, 50, .inl t_z)), (q_t_order, .inl (G.2 0, 7, .inl E_t_order)), (q_t_rowsTaken, .inl (G.2 0, 7, .inl E_t_rowsTaken)), (q_t_columnsTaken, .inl (G.2 0, 7, .inl E_t_columnsTaken))] → va_S A0 H0 H locs → lv_has ls 7 [(0, .ref q_t), (1, .int x1), (2, .int x2), (3, .long E_x3), (5, .int x5)] → W p l e ({ frames := 3, cells := 0, slots := 0, locals := 77 } : Room) s m args below meth c H locs 0 0 Q (F0 m 66 ls [])) : ∀ (n : Nat) (x3 : Int64) (x6 : Int32) (t_order : Nat → Int32) (t_rowsTaken : Nat → Int32) (t_columnsTaken : Nat → Int32), lpN (f_X10_sumOfAll_L2 x1 x2 x5 t_z) n (x3, x6, t_order, t_rowsTaken, t_columnsTaken) = some (E_x3, E_t_order, E_t_rowsTaken, E_t_columnsTaken) → ∀ (H : Heap) (locs : List Loc) (ls : Array Slot), va_P G.1 vwCl [(q_t, .inr (9, [.ref q_t_z, .ref q_t_old, .ref q_t_past, .int t_states, .ref q_t_kept, .int t_isKept, .ref q_t_text, .int t_length, .ref q_t_order, .ref q_t_told, .int t_spot, .int t_toldRows, .ref q_t_rowsTaken, .ref q_t_columnsTaken, .ref q_t_ways, .ref q_t_scaled, .ref q_t_rowFactors, .ref q_t_columnFactors, .ref q_t_rest, .ref q_t_diagonals, .ref q_t_weights])), (q_t_z, .inl (G.2 0, 50, .inl t_z)), (q_t_order, .inl (G.2 0, 7, .inl t_order)), (q_t_rowsTaken, .inl (G.2 0, 7, .inl t_rowsTaken)), (q_t_columnsTaken, .inl (G.2 0, 7, .inl t_columnsTaken))] H → va_D A0 [(q_t, .inr (9, [.ref q_t_z, .ref q_t_old, .ref q_t_past, .int t_states, .ref q_t_kept, .int t_isKept, .ref q_t_text, .int t_length, .ref q_t_order, .ref q_t_told, .int t_spot, .int t_toldRows, .ref q_t_rowsTaken, .ref q_t_columnsTaken, .ref q_t_ways, .ref q_t_scaled, .ref q_t_rowFactors, .ref q_t_columnFactors, .ref q_t_rest, .ref q_t_diagonals, .ref q_t_weights])), (q_t_z, .inl (G.2 0, 50, .inl t_z)), (q_t_order, .inl (G.2 0, 7, .inl t_order)), (q_t_rowsTaken, .inl (G.2 0, 7, .inl t_rowsTaken)), (q_t_columnsTaken, .inl (G.2 0, 7, .inl t_columnsTaken))] → va_S A0 H0 H locs → lv_has ls 7 [(0, .ref q_t), (1, .int x1), (2, .int x2), (3, .long x3), (5, .int x5), (6, .int x6)] → W p l e ({ frames := 3, cells := 0, slots := 0, locals := 77 } : Room) s m args below meth c H locs 0 0 Q (F0 m 17 ls []) := by
  obtain ⟨hx, hb, hml, hown, hts⟩ := C
  intro n
  induction n with
  | zero => intro x3 x6 t_order t_rowsTaken t_columnsTaken h; exact absurd h (fun h => lp_0 h)
  | succ n ih =>
    intro x3 x6 t_order t_rowsTaken t_columnsTaken h H locs ls hP hD hS hl
    obtain ⟨y, h, hk⟩ := lp_s h
    rw [f_X10_sumOfAll_L2] at h
    refine lv_iload hx hb dX10_sumOfAll_17 (lv_at hl 5 rfl) ?_
    refine lv_aload_n hx hb dX10_sumOfAll_19 rfl (lv_at hl 0 rfl) ?_
    obtain ⟨r_4, hf_5, h⟩ := bd_ok h
    refine ck_Vi (rest := [.int x6]) (wn := [(q_t, .inr (9, [.ref q_t_z, .ref q_t_old, .ref q_t_past, .int t_states, .ref q_t_kept, .int t_isKept, .ref q_t_text, .int t_length, .ref q_t_order, .ref q_t_told, .int t_spot, .int t_toldRows, .ref q_t_rowsTaken, .ref q_t_columnsTaken, .ref q_t_ways, .ref q_t_scaled, .ref q_t_rowFactors, .ref q_t_columnFactors, .ref q_t_rest, .ref q_t_diagonals, .ref q_t_weights])), (q_t_z, .inl (G.2 0, 50, .inl t_z)), (q_t_order, .inl (G.2 0, 7, .inl t_order)), (q_t_rowsTaken, .inl (G.2 0, 7, .inl t_rowsTaken)), (q_t_columnsTaken, .inl (G.2 0, 7, .inl t_columnsTaken))]) ⟨hx, hb, hml, hown, hts⟩ hK hP hD hS hA [0, 1] [2, 3, 4] [3, 4, 0, 1, 2] (c_X10_all l G q_t q_t_z q_t_old q_t_past q_t_kept q_t_text q_t_order q_t_told q_t_rowsTaken q_t_columnsTaken q_t_ways q_t_scaled q_t_rowFactors q_t_columnFactors q_t_rest q_t_diagonals q_t_weights _ t_states t_isKept t_length t_spot t_toldRows t_z _ hf_5) (cwV 0 hts gX10_sumOfAll_X10_all rfl rfl rfl (by decide +kernel) ⟨Nat.le_of_ble_eq_true rfl, Nat.le_of_ble_eq_true rfl⟩) rfl rfl rfl rfl rfl rfl (by decide) rfl rfl rfl hl.1 rfl (Nat.le_of_ble_eq_true rfl) dX10_sumOfAll_20 ⟨Nat.zero_le _, Nat.zero_le _⟩ (fun H locs hP hD hS => ?_)
    refine lv_icmp_gt (tgt := 66) hx hb dX10_sumOfAll_23 (by decide) (fun c_6 => ?_) (fun c_6 => ?_)
    · replace h := it_t h c_6
      obtain rfl := sm1 h
      obtain ⟨rfl, rfl, rfl, rfl⟩ := sm4 hk
      exact K H locs ls hP hD hS (lv_sub hl [0, 1, 2, 3, 4] rfl)
    · replace h := it_f h c_6
      refine lv_iload hx hb dX10_sumOfAll_26 (lv_at hl 4 rfl) ?_
      obtain ⟨r_7, hf_8, h⟩ := bd_ok h
      refine ck_Si (rest := []) (wn := [(q_t, .inr (9, [.ref q_t_z, .ref q_t_old, .ref q_t_past, .int t_states, .ref q_t_kept, .int t_isKept, .ref q_t_text, .int t_length, .ref q_t_order, .ref q_t_told, .int t_spot, .int t_toldRows, .ref q_t_rowsTaken, .ref q_t_columnsTaken, .ref q_t_ways, .ref q_t_scaled, .ref q_t_rowFactors, .ref q_t_columnFactors, .ref q_t_rest, .ref q_t_diagonals, .ref q_t_weights])), (q_t_z, .inl (G.2 0, 50, .inl t_z)), (q_t_order, .inl (G.2 0, 7, .inl t_order)), (q_t_rowsTaken, .inl (G.2 0, 7, .inl t_rowsTaken)), (q_t_columnsTaken, .inl (G.2 0, 7, .inl t_columnsTaken))]) ⟨hx, hb, hml, hown, hts⟩ hK hP hD hS hA [] [0, 1, 2, 3, 4] [0, 1, 2, 3, 4] (c_X10_bits l G _ x5 _ hf_8) (cwS 1 hts gX10_sumOfAll_X10_bits rfl rfl rfl (by decide +kernel) ⟨Nat.le_of_ble_eq_true rfl, Nat.le_of_ble_eq_true rfl⟩) rfl rfl rfl rfl (by decide) rfl rfl rfl hl.1 rfl (Nat.le_of_ble_eq_true rfl) dX10_sumOfAll_28 ⟨Nat.zero_le _, Nat.zero_le _⟩ (fun H locs hP hD hS => ?_)
      refine lv_iload_n hx hb dX10_sumOfAll_31 rfl (lv_at hl 1 rfl) ?_
      refine lv_icmp_ne (tgt := 66) hx hb dX10_sumOfAll_32 (by decide) (fun c_9 => ?_) (fun c_9 => ?_)
      · replace h := it_f h c_9
        obtain rfl := sm1 h
        obtain ⟨rfl, rfl, rfl, rfl⟩ := sm4 hk
        exact K H locs ls hP hD hS (lv_sub hl [0, 1, 2, 3, 4] rfl)
      · replace h := it_t h c_9
        refine lv_lload_n hx hb dX10_sumOfAll_35 rfl (lv_at hl 3 rfl) ?_
        refine lv_iload hx hb dX10_sumOfAll_36 (lv_at hl 5 rfl) ?_
        obtain ⟨r_10, hf_11, h⟩ := bd_ok h
        refine ck_Si (rest := [.long x3]) (wn := [(q_t, .inr (9, [.ref q_t_z, .ref q_t_old, .ref q_t_past, .int t_states, .ref q_t_kept, .int t_isKept, .ref q_t_text, .int t_length, .ref q_t_order, .ref q_t_told, .int t_spot, .int t_toldRows, .ref q_t_rowsTaken, .ref q_t_columnsTaken, .ref q_t_ways, .ref q_t_scaled, .ref q_t_rowFactors, .ref q_t_columnFactors, .ref q_t_rest, .ref q_t_diagonals, .ref q_t_weights])), (q_t_z, .inl (G.2 0, 50, .inl t_z)), (q_t_order, .inl (G.2 0, 7, .inl t_order)), (q_t_rowsTaken, .inl (G.2 0, 7, .inl t_rowsTaken)), (q_t_columnsTaken, .inl (G.2 0, 7, .inl t_columnsTaken))]) ⟨hx, hb, hml, hown, hts⟩ hK hP hD hS hA [] [0, 1, 2, 3, 4] [0, 1, 2, 3, 4] (c_X10_bits l G _ x6 _ hf_11) (cwS 1 hts gX10_sumOfAll_X10_bits rfl rfl rfl (by decide +kernel) ⟨Nat.le_of_ble_eq_true rfl, Nat.le_of_ble_eq_true rfl⟩) rfl rfl rfl rfl (by decide) rfl rfl rfl hl.1 rfl (Nat.le_of_ble_eq_true rfl) dX10_sumOfAll_38 ⟨Nat.zero_le _, Nat.zero_le _⟩ (fun H locs hP hD hS => ?_)
        refine lv_iload_n hx hb dX10_sumOfAll_41 rfl (lv_at hl 1 rfl) ?_
        refine lv_icmp_ne (tgt := 57) hx hb dX10_sumOfAll_42 (by decide) (fun c_12 => ?_) (fun c_12 => ?_)
        · replace h := it_f h c_12
          refine lv_lconst (v := 0) hx hb dX10_sumOfAll_57 (by decide) ?_
          refine lv_ladd hx hb dX10_sumOfAll_58 ?_
          refine lv_topl (fun x3_13 ex3_13 => ?_)
          replace h := pl_v h ex3_13
          refine lv_lstore_n (lv' := [(3, .long x3_13), (0, .ref q_t), (1, .int x1), (2, .int x2), (5, .int x5), (6, .int x6)]) hx hb dX10_sumOfAll_59 rfl hl (by decide) rfl (fun ls hl => ?_)
          obtain ⟨x6_14, ex6_14, h⟩ := pl_ok h
          refine lv_iinc (v := x6_14) (lv' := [(6, .int x6_14), (3, .long x3_13), (0, .ref q_t), (1, .int x1), (2, .int x2), (5, .int x5)]) hx hb dX10_sumOfAll_60 hl (k := 5) rfl (by rw [ex6_14]; rfl) (by decide) rfl (fun ls hl => ?_)
          refine lv_goto (tgt := 17) hx hb dX10_sumOfAll_63 (by decide) ?_
          obtain rfl := sm1 h
          exact ih x3_13 x6_14 t_order t_rowsTaken t_columnsTaken hk H locs ls hP hD hS (lv_sub hl [2, 3, 4, 1, 5, 0] rfl)
        · replace h := it_t h c_12
          refine lv_aload_n hx hb dX10_sumOfAll_45 rfl (lv_at hl 0 rfl) ?_
          refine lv_iload hx hb dX10_sumOfAll_46 (lv_at hl 4 rfl) ?_
          refine lv_iload hx hb dX10_sumOfAll_48 (lv_at hl 5 rfl) ?_
          refine lv_iload_n hx hb dX10_sumOfAll_50 rfl (lv_at hl 2 rfl) ?_
          obtain ⟨⟨r_18, t_order_15, t_rowsTaken_16, t_columnsTaken_17⟩, hf_19, h⟩ := bd_ok h
          refine ck_Vl (rest := [.long x3]) (wn := [(q_t, .inr (9, [.ref q_t_z, .ref q_t_old, .ref q_t_past, .int t_states, .ref q_t_kept, .int t_isKept, .ref q_t_text, .int t_length, .ref q_t_order, .ref q_t_told, .int t_spot, .int t_toldRows, .ref q_t_rowsTaken, .ref q_t_columnsTaken, .ref q_t_ways, .ref q_t_scaled, .ref q_t_rowFactors, .ref q_t_columnFactors, .ref q_t_rest, .ref q_t_diagonals, .ref q_t_weights])), (q_t_z, .inl (G.2 0, 50, .inl t_z)), (q_t_order, .inl (G.2 0, 7, .inl t_order_15)), (q_t_rowsTaken, .inl (G.2 0, 7, .inl t_rowsTaken_16)), (q_t_columnsTaken, .inl (G.2 0, 7, .inl t_columnsTaken_17))]) ⟨hx, hb, hml, hown, hts⟩ hK hP hD hS hA [0, 1, 2, 3, 4] [] [0, 1, 2, 3, 4] (c_X10_sumOfSets l G q_t q_t_z q_t_old q_t_past q_t_kept q_t_text q_t_order q_t_told q_t_rowsTaken q_t_columnsTaken q_t_ways q_t_scaled q_t_rowFactors q_t_columnFactors q_t_rest q_t_diagonals q_t_weights _ t_states t_isKept t_length t_spot t_toldRows t_z t_order t_rowsTaken t_columnsTaken x5 x6 x2 _ _ _ _ hf_19) (cwV 3 hts gX10_sumOfAll_X10_sumOfSets rfl rfl rfl (by decide +kernel) ⟨Nat.le_of_ble_eq_true rfl, Nat.le_of_ble_eq_true rfl⟩) rfl rfl rfl rfl rfl rfl (by decide) rfl rfl rfl hl.1 rfl (Nat.le_of_ble_eq_true rfl) dX10_sumOfAll_51 ⟨Nat.zero_le _, Nat.zero_le _⟩ (fun H locs hP hD hS => ?_)
          refine lv_goto (tgt := 58) hx hb dX10_sumOfAll_54 (by decide) ?_
          refine lv_ladd hx hb dX10_sumOfAll_58 ?_
          refine lv_topl (fun x3_20 ex3_20 => ?_)
          replace h := pl_v h ex3_20
          refine lv_lstore_n (lv' := [(3, .long x3_20), (0, .ref q_t), (1, .int x1), (2, .int x2), (5, .int x5), (6, .int x6)]) hx hb dX10_sumOfAll_59 rfl hl (by decide) rfl (fun ls hl => ?_)
          obtain ⟨x6_21, ex6_21, h⟩ := pl_ok h
          refine lv_iinc (v := x6_21) (lv' := [(6, .int x6_21), (3, .long x3_20), (0, .ref q_t), (1, .int x1), (2, .int x2), (5, .int x5)]) hx hb dX10_sumOfAll_60 hl (k := 5) rfl (by rw [ex6_21]; rfl) (by decide) rfl (fun ls hl => ?_)
          refine lv_goto (tgt := 17) hx hb dX10_sumOfAll_63 (by decide) ?_
          obtain rfl := sm1 h
          exact ih x3_20 x6_21 t_order_15 t_rowsTaken_16 t_columnsTaken_17 hk H locs ls hP hD hS (lv_sub hl [2, 3, 4, 1, 5, 0] rfl)
set_option maxHeartbeats 4000000 in
set_option maxRecDepth 100000 in
theorem l_X10_sumOfAll_1 {p : Program} {l : Launch} {e : Env} {s : State} {m : MethodId} {args : Array Value} {below : List Frame} {meth : Method} {c : Code} {Q : State → Prop} {A0 : Nat → Prop} {H0 : Heap} (C : CallFix p m c cX10_sumOfAll 7 s args wsX10_sumOfAll RX10) (G : GT) (hK : gK G s) (hA : ∀ q : Nat, H0.size ≤ q → A0 q) (q_t q_t_z q_t_old q_t_past q_t_kept q_t_text q_t_order q_t_told q_t_rowsTaken q_t_columnsTaken q_t_ways q_t_scaled q_t_rowFactors q_t_columnFactors q_t_rest q_t_diagonals q_t_weights : Nat) (x1 : Int32) (x2 : Int32) (t_states : Int32) (t_isKept : Int32) (t_length : Int32) (t_spot : Int32) (t_toldRows : Int32) (t_z : Nat → Int32) (E_x3 : Int64) (E_t_order : Nat → Int32) (E_t_rowsTaken : Nat → Int32) (E_t_columnsTaken : Nat → Int32) (K : ∀ (H : Heap) (locs : List Loc) (ls : Array Slot), va_P G.1 vwCl [(q_t, .inr (9, [.ref q_t_z, .ref q_t_old, .ref q_t_past, .int t_states, .ref q_t_kept, .int t_isKept, .ref q_t_text, .int t_length, .ref q_t_order, .ref q_t_told, .int t_spot, .int t_toldRows, .ref q_t_rowsTaken, .ref q_t_columnsTaken, .ref q_t_ways, .ref q_t_scaled, .ref q_t_rowFactors, .ref q_t_columnFactors, .ref q_t_rest, .ref q_t_diagonals, .ref q_t_weights])), (q_t_z, .inl (G.2 0, 50, .inl t_z)), (q_t_order, .inl (G.2 0, 7, .inl E_t_order)), (q_t_rowsTaken, .inl (G.2 0, 7, .inl E_t_rowsTaken)), (q_t_columnsTaken, .inl (G.2 0, 7, .inl E_t_columnsTaken))] H → va_D A0 [(q_t, .inr (9, [.ref q_t_z, .ref q_t_old, .ref q_t_past, .int t_states, .ref q_t_kept, .int t_isKept, .ref q_t_text, .int t_length, .ref q_t_order, .ref q_t_told, .int t_spot, .int t_toldRows, .ref q_t_rowsTaken, .ref q_t_columnsTaken, .ref q_t_ways, .ref q_t_scaled, .ref q_t_rowFactors, .ref q_t_columnFactors, .ref q_t_rest, .ref q_t_diagonals, .ref q_t_weights])), (q_t_z, .inl (G.2 0, 50, .inl t_z)), (q_t_order, .inl (G.2 0, 7, .inl E_t_order)), (q_t_rowsTaken, .inl (G.2 0, 7, .inl E_t_rowsTaken)), (q_t_columnsTaken, .inl (G.2 0, 7, .inl E_t_columnsTaken))] → va_S A0 H0 H locs → lv_has ls 7 [(3, .long E_x3)] → W p l e ({ frames := 3, cells := 0, slots := 0, locals := 77 } : Room) s m args below meth c H locs 0 0 Q (F0 m 72 ls [])) : ∀ (n : Nat) (x3 : Int64) (x5 : Int32) (t_order : Nat → Int32) (t_rowsTaken : Nat → Int32) (t_columnsTaken : Nat → Int32), lpN (f_X10_sumOfAll_L1 x1 x2 t_z) n (x3, x5, t_order, t_rowsTaken, t_columnsTaken) = some (E_x3, E_t_order, E_t_rowsTaken, E_t_columnsTaken) → ∀ (H : Heap) (locs : List Loc) (ls : Array Slot), va_P G.1 vwCl [(q_t, .inr (9, [.ref q_t_z, .ref q_t_old, .ref q_t_past, .int t_states, .ref q_t_kept, .int t_isKept, .ref q_t_text, .int t_length, .ref q_t_order, .ref q_t_told, .int t_spot, .int t_toldRows, .ref q_t_rowsTaken, .ref q_t_columnsTaken, .ref q_t_ways, .ref q_t_scaled, .ref q_t_rowFactors, .ref q_t_columnFactors, .ref q_t_rest, .ref q_t_diagonals, .ref q_t_weights])), (q_t_z, .inl (G.2 0, 50, .inl t_z)), (q_t_order, .inl (G.2 0, 7, .inl t_order)), (q_t_rowsTaken, .inl (G.2 0, 7, .inl t_rowsTaken)), (q_t_columnsTaken, .inl (G.2 0, 7, .inl t_columnsTaken))] H → va_D A0 [(q_t, .inr (9, [.ref q_t_z, .ref q_t_old, .ref q_t_past, .int t_states, .ref q_t_kept, .int t_isKept, .ref q_t_text, .int t_length, .ref q_t_order, .ref q_t_told, .int t_spot, .int t_toldRows, .ref q_t_rowsTaken, .ref q_t_columnsTaken, .ref q_t_ways, .ref q_t_scaled, .ref q_t_rowFactors, .ref q_t_columnFactors, .ref q_t_rest, .ref q_t_diagonals, .ref q_t_weights])), (q_t_z, .inl (G.2 0, 50, .inl t_z)), (q_t_order, .inl (G.2 0, 7, .inl t_order)), (q_t_rowsTaken, .inl (G.2 0, 7, .inl t_rowsTaken)), (q_t_columnsTaken, .inl (G.2 0, 7, .inl t_columnsTaken))] → va_S A0 H0 H locs → lv_has ls 7 [(0, .ref q_t), (1, .int x1), (2, .int x2), (3, .long x3), (5, .int x5)] → W p l e ({ frames := 3, cells := 0, slots := 0, locals := 77 } : Room) s m args below meth c H locs 0 0 Q (F0 m 5 ls []) := by
  obtain ⟨hx, hb, hml, hown, hts⟩ := C
  intro n
  induction n with
  | zero => intro x3 x5 t_order t_rowsTaken t_columnsTaken h; exact absurd h (fun h => lp_0 h)
  | succ n ih =>
    intro x3 x5 t_order t_rowsTaken t_columnsTaken h H locs ls hP hD hS hl
    obtain ⟨y, h, hk⟩ := lp_s h
    rw [f_X10_sumOfAll_L1] at h
    refine lv_iload hx hb dX10_sumOfAll_5 (lv_at hl 4 rfl) ?_
    refine lv_aload_n hx hb dX10_sumOfAll_7 rfl (lv_at hl 0 rfl) ?_
    obtain ⟨r_1, hf_2, h⟩ := bd_ok h
    refine ck_Vi (rest := [.int x5]) (wn := [(q_t, .inr (9, [.ref q_t_z, .ref q_t_old, .ref q_t_past, .int t_states, .ref q_t_kept, .int t_isKept, .ref q_t_text, .int t_length, .ref q_t_order, .ref q_t_told, .int t_spot, .int t_toldRows, .ref q_t_rowsTaken, .ref q_t_columnsTaken, .ref q_t_ways, .ref q_t_scaled, .ref q_t_rowFactors, .ref q_t_columnFactors, .ref q_t_rest, .ref q_t_diagonals, .ref q_t_weights])), (q_t_z, .inl (G.2 0, 50, .inl t_z)), (q_t_order, .inl (G.2 0, 7, .inl t_order)), (q_t_rowsTaken, .inl (G.2 0, 7, .inl t_rowsTaken)), (q_t_columnsTaken, .inl (G.2 0, 7, .inl t_columnsTaken))]) ⟨hx, hb, hml, hown, hts⟩ hK hP hD hS hA [0, 1] [2, 3, 4] [3, 4, 0, 1, 2] (c_X10_all l G q_t q_t_z q_t_old q_t_past q_t_kept q_t_text q_t_order q_t_told q_t_rowsTaken q_t_columnsTaken q_t_ways q_t_scaled q_t_rowFactors q_t_columnFactors q_t_rest q_t_diagonals q_t_weights _ t_states t_isKept t_length t_spot t_toldRows t_z _ hf_2) (cwV 0 hts gX10_sumOfAll_X10_all rfl rfl rfl (by decide +kernel) ⟨Nat.le_of_ble_eq_true rfl, Nat.le_of_ble_eq_true rfl⟩) rfl rfl rfl rfl rfl rfl (by decide) rfl rfl rfl hl.1 rfl (Nat.le_of_ble_eq_true rfl) dX10_sumOfAll_8 ⟨Nat.zero_le _, Nat.zero_le _⟩ (fun H locs hP hD hS => ?_)
    refine lv_icmp_gt (tgt := 72) hx hb dX10_sumOfAll_11 (by decide) (fun c_3 => ?_) (fun c_3 => ?_)
    · replace h := it_t h c_3
      obtain rfl := sm1 h
      obtain ⟨rfl, rfl, rfl, rfl⟩ := sm4 hk
      exact K H locs ls hP hD hS (lv_sub hl [3] rfl)
    · replace h := it_f h c_3
      refine lv_iconst (v := 0) hx hb dX10_sumOfAll_14 (by decide) ?_
      refine lv_istore (lv' := [(6, .int (0 : Int32)), (0, .ref q_t), (1, .int x1), (2, .int x2), (3, .long x3), (5, .int x5)]) hx hb dX10_sumOfAll_15 hl (by decide) rfl (fun ls hl => ?_)
      obtain ⟨⟨x3_22, t_order_23, t_rowsTaken_24, t_columnsTaken_25⟩, hz_27, h⟩ := bd_ok h
      refine l_X10_sumOfAll_2 ⟨hx, hb, hml, hown, hts⟩ G hK hA q_t q_t_z q_t_old q_t_past q_t_kept q_t_text q_t_order q_t_told q_t_rowsTaken q_t_columnsTaken q_t_ways q_t_scaled q_t_rowFactors q_t_columnFactors q_t_rest q_t_diagonals q_t_weights x1 x2 x5 t_states t_isKept t_length t_spot t_toldRows t_z x3_22 t_order_23 t_rowsTaken_24 t_columnsTaken_25 ?_ FU x3 (0 : Int32) t_order t_rowsTaken t_columnsTaken hz_27 H locs ls hP hD hS (lv_sub hl [1, 2, 3, 4, 5, 0] rfl)
      intro H locs ls hP hD hS hl
      obtain ⟨x5_28, ex5_28, h⟩ := pl_ok h
      refine lv_iinc (v := x5_28) (lv' := [(5, .int x5_28), (0, .ref q_t), (1, .int x1), (2, .int x2), (3, .long x3_22)]) hx hb dX10_sumOfAll_66 hl (k := 4) rfl (by rw [ex5_28]; rfl) (by decide) rfl (fun ls hl => ?_)
      refine lv_goto (tgt := 5) hx hb dX10_sumOfAll_69 (by decide) ?_
      obtain rfl := sm1 h
      exact ih x3_22 x5_28 t_order_23 t_rowsTaken_24 t_columnsTaken_25 hk H locs ls hP hD hS (lv_sub hl [1, 2, 3, 4, 0] rfl)
set_option maxHeartbeats 4000000 in
set_option maxRecDepth 100000 in
theorem k_X10_sumOfAll {p : Program} {l : Launch} {e : Env} {s : State} {m : MethodId} {args : Array Value} {below : List Frame} {meth : Method} {c : Code} {Q : State → Prop} {A0 : Nat → Prop} {H0 : Heap} (C : CallFix p m c cX10_sumOfAll 7 s args wsX10_sumOfAll RX10) (G : GT) (hK : gK G s) (hA : ∀ q : Nat, H0.size ≤ q → A0 q) (q_t q_t_z q_t_old q_t_past q_t_kept q_t_text q_t_order q_t_told q_t_rowsTaken q_t_columnsTaken q_t_ways q_t_scaled q_t_rowFactors q_t_columnFactors q_t_rest q_t_diagonals q_t_weights : Nat) (t_states : Int32) (t_isKept : Int32) (t_length : Int32) (t_spot : Int32) (t_toldRows : Int32) (t_z : Nat → Int32) (t_order : Nat → Int32) (t_rowsTaken : Nat → Int32) (t_columnsTaken : Nat → Int32) (a1 : Int32) (a2 : Int32) (r : Int64) (o_t_order : Nat → Int32) (o_t_rowsTaken : Nat → Int32) (o_t_columnsTaken : Nat → Int32) (h : f_X10_sumOfAll t_z t_order t_rowsTaken t_columnsTaken a1 a2 = some (r, o_t_order, o_t_rowsTaken, o_t_columnsTaken)) (KR : ∀ (H : Heap) (locs : List Loc) (ls : Array Slot) (pc : Nat), decode cX10_sumOfAll pc = .ok (.lreturn, 1) → va_P G.1 vwCl [(q_t, .inr (9, [.ref q_t_z, .ref q_t_old, .ref q_t_past, .int t_states, .ref q_t_kept, .int t_isKept, .ref q_t_text, .int t_length, .ref q_t_order, .ref q_t_told, .int t_spot, .int t_toldRows, .ref q_t_rowsTaken, .ref q_t_columnsTaken, .ref q_t_ways, .ref q_t_scaled, .ref q_t_rowFactors, .ref q_t_columnFactors, .ref q_t_rest, .ref q_t_diagonals, .ref q_t_weights])), (q_t_z, .inl (G.2 0, 50, .inl t_z)), (q_t_order, .inl (G.2 0, 7, .inl o_t_order)), (q_t_rowsTaken, .inl (G.2 0, 7, .inl o_t_rowsTaken)), (q_t_columnsTaken, .inl (G.2 0, 7, .inl o_t_columnsTaken))] H → va_D A0 [(q_t, .inr (9, [.ref q_t_z, .ref q_t_old, .ref q_t_past, .int t_states, .ref q_t_kept, .int t_isKept, .ref q_t_text, .int t_length, .ref q_t_order, .ref q_t_told, .int t_spot, .int t_toldRows, .ref q_t_rowsTaken, .ref q_t_columnsTaken, .ref q_t_ways, .ref q_t_scaled, .ref q_t_rowFactors, .ref q_t_columnFactors, .ref q_t_rest, .ref q_t_diagonals, .ref q_t_weights])), (q_t_z, .inl (G.2 0, 50, .inl t_z)), (q_t_order, .inl (G.2 0, 7, .inl o_t_order)), (q_t_rowsTaken, .inl (G.2 0, 7, .inl o_t_rowsTaken)), (q_t_columnsTaken, .inl (G.2 0, 7, .inl o_t_columnsTaken))] → va_S A0 H0 H locs → W p l e ({ frames := 3, cells := 0, slots := 0, locals := 77 } : Room) s m args below meth c H locs 0 0 Q (F0 m pc ls [.long r])) : ∀ (H : Heap) (locs : List Loc) (ls : Array Slot), va_P G.1 vwCl [(q_t, .inr (9, [.ref q_t_z, .ref q_t_old, .ref q_t_past, .int t_states, .ref q_t_kept, .int t_isKept, .ref q_t_text, .int t_length, .ref q_t_order, .ref q_t_told, .int t_spot, .int t_toldRows, .ref q_t_rowsTaken, .ref q_t_columnsTaken, .ref q_t_ways, .ref q_t_scaled, .ref q_t_rowFactors, .ref q_t_columnFactors, .ref q_t_rest, .ref q_t_diagonals, .ref q_t_weights])), (q_t_z, .inl (G.2 0, 50, .inl t_z)), (q_t_order, .inl (G.2 0, 7, .inl t_order)), (q_t_rowsTaken, .inl (G.2 0, 7, .inl t_rowsTaken)), (q_t_columnsTaken, .inl (G.2 0, 7, .inl t_columnsTaken))] H → va_D A0 [(q_t, .inr (9, [.ref q_t_z, .ref q_t_old, .ref q_t_past, .int t_states, .ref q_t_kept, .int t_isKept, .ref q_t_text, .int t_length, .ref q_t_order, .ref q_t_told, .int t_spot, .int t_toldRows, .ref q_t_rowsTaken, .ref q_t_columnsTaken, .ref q_t_ways, .ref q_t_scaled, .ref q_t_rowFactors, .ref q_t_columnFactors, .ref q_t_rest, .ref q_t_diagonals, .ref q_t_weights])), (q_t_z, .inl (G.2 0, 50, .inl t_z)), (q_t_order, .inl (G.2 0, 7, .inl t_order)), (q_t_rowsTaken, .inl (G.2 0, 7, .inl t_rowsTaken)), (q_t_columnsTaken, .inl (G.2 0, 7, .inl t_columnsTaken))] → va_S A0 H0 H locs → lv_has ls 7 [(0, .ref q_t), (1, .int a1), (2, .int a2)] → W p l e ({ frames := 3, cells := 0, slots := 0, locals := 77 } : Room) s m args below meth c H locs 0 0 Q (F0 m 0 ls []) := by
  obtain ⟨hx, hb, hml, hown, hts⟩ := C
  intro H locs ls hP hD hS hl
  rw [f_X10_sumOfAll] at h
  refine lv_lconst (v := 0) hx hb dX10_sumOfAll_0 (by decide) ?_
  refine lv_lstore_n (lv' := [(3, .long (0 : Int64)), (0, .ref q_t), (1, .int a1), (2, .int a2)]) hx hb dX10_sumOfAll_1 rfl hl (by decide) rfl (fun ls hl => ?_)
  refine lv_iconst (v := 0) hx hb dX10_sumOfAll_2 (by decide) ?_
  refine lv_istore (lv' := [(5, .int (0 : Int32)), (3, .long (0 : Int64)), (0, .ref q_t), (1, .int a1), (2, .int a2)]) hx hb dX10_sumOfAll_3 hl (by decide) rfl (fun ls hl => ?_)
  obtain ⟨⟨x3_29, t_order_30, t_rowsTaken_31, t_columnsTaken_32⟩, hz_34, h⟩ := bd_ok h
  refine l_X10_sumOfAll_1 ⟨hx, hb, hml, hown, hts⟩ G hK hA q_t q_t_z q_t_old q_t_past q_t_kept q_t_text q_t_order q_t_told q_t_rowsTaken q_t_columnsTaken q_t_ways q_t_scaled q_t_rowFactors q_t_columnFactors q_t_rest q_t_diagonals q_t_weights a1 a2 t_states t_isKept t_length t_spot t_toldRows t_z x3_29 t_order_30 t_rowsTaken_31 t_columnsTaken_32 ?_ FU (0 : Int64) (0 : Int32) t_order t_rowsTaken t_columnsTaken hz_34 H locs ls hP hD hS (lv_sub hl [2, 3, 4, 1, 0] rfl)
  intro H locs ls hP hD hS hl
  refine lv_lload_n hx hb dX10_sumOfAll_72 rfl (lv_at hl 0 rfl) ?_
  obtain ⟨rfl, rfl, rfl, rfl⟩ := sm4 h
  exact KR H locs ls 73 dX10_sumOfAll_73 hP hD hS
set_option maxHeartbeats 4000000 in
set_option maxRecDepth 100000 in
theorem c_X10_sumOfAll (l : Launch) (G : GT) (q_t q_t_z q_t_old q_t_past q_t_kept q_t_text q_t_order q_t_told q_t_rowsTaken q_t_columnsTaken q_t_ways q_t_scaled q_t_rowFactors q_t_columnFactors q_t_rest q_t_diagonals q_t_weights : Nat) (sz : Nat) (t_states : Int32) (t_isKept : Int32) (t_length : Int32) (t_spot : Int32) (t_toldRows : Int32) (t_z : Nat → Int32) (t_order : Nat → Int32) (t_rowsTaken : Nat → Int32) (t_columnsTaken : Nat → Int32) (a1 : Int32) (a2 : Int32) (r : Int64) (o_t_order : Nat → Int32) (o_t_rowsTaken : Nat → Int32) (o_t_columnsTaken : Nat → Int32) (h : f_X10_sumOfAll t_z t_order t_rowsTaken t_columnsTaken a1 a2 = some (r, o_t_order, o_t_rowsTaken, o_t_columnsTaken)) : Met l yX10_sumOfAll wsX10_sumOfAll ({ frames := 3, cells := 0, slots := 0, locals := 77 } : Room) (va_Pc [.ref q_t, .int a1, .int a2] (pcW G [(q_t, .inr (9, [.ref q_t_z, .ref q_t_old, .ref q_t_past, .int t_states, .ref q_t_kept, .int t_isKept, .ref q_t_text, .int t_length, .ref q_t_order, .ref q_t_told, .int t_spot, .int t_toldRows, .ref q_t_rowsTaken, .ref q_t_columnsTaken, .ref q_t_ways, .ref q_t_scaled, .ref q_t_rowFactors, .ref q_t_columnFactors, .ref q_t_rest, .ref q_t_diagonals, .ref q_t_weights])), (q_t_z, .inl (G.2 0, 50, .inl t_z)), (q_t_order, .inl (G.2 0, 7, .inl t_order)), (q_t_rowsTaken, .inl (G.2 0, 7, .inl t_rowsTaken)), (q_t_columnsTaken, .inl (G.2 0, 7, .inl t_columnsTaken))] sz)) (va_Ql (fun r9 (_ : Unit) => r9 = r) (fun _ t => atW G (va_A [(q_t, .inr (9, [.ref q_t_z, .ref q_t_old, .ref q_t_past, .int t_states, .ref q_t_kept, .int t_isKept, .ref q_t_text, .int t_length, .ref q_t_order, .ref q_t_told, .int t_spot, .int t_toldRows, .ref q_t_rowsTaken, .ref q_t_columnsTaken, .ref q_t_ways, .ref q_t_scaled, .ref q_t_rowFactors, .ref q_t_columnFactors, .ref q_t_rest, .ref q_t_diagonals, .ref q_t_weights])), (q_t_z, .inl (G.2 0, 50, .inl t_z)), (q_t_order, .inl (G.2 0, 7, .inl t_order)), (q_t_rowsTaken, .inl (G.2 0, 7, .inl t_rowsTaken)), (q_t_columnsTaken, .inl (G.2 0, 7, .inl t_columnsTaken))] sz) [(q_t, .inr (9, [.ref q_t_z, .ref q_t_old, .ref q_t_past, .int t_states, .ref q_t_kept, .int t_isKept, .ref q_t_text, .int t_length, .ref q_t_order, .ref q_t_told, .int t_spot, .int t_toldRows, .ref q_t_rowsTaken, .ref q_t_columnsTaken, .ref q_t_ways, .ref q_t_scaled, .ref q_t_rowFactors, .ref q_t_columnFactors, .ref q_t_rest, .ref q_t_diagonals, .ref q_t_weights])), (q_t_z, .inl (G.2 0, 50, .inl t_z)), (q_t_order, .inl (G.2 0, 7, .inl o_t_order)), (q_t_rowsTaken, .inl (G.2 0, 7, .inl o_t_rowsTaken)), (q_t_columnsTaken, .inl (G.2 0, 7, .inl o_t_columnsTaken))] t) (va_A [(q_t, .inr (9, [.ref q_t_z, .ref q_t_old, .ref q_t_past, .int t_states, .ref q_t_kept, .int t_isKept, .ref q_t_text, .int t_length, .ref q_t_order, .ref q_t_told, .int t_spot, .int t_toldRows, .ref q_t_rowsTaken, .ref q_t_columnsTaken, .ref q_t_ways, .ref q_t_scaled, .ref q_t_rowFactors, .ref q_t_columnFactors, .ref q_t_rest, .ref q_t_diagonals, .ref q_t_weights])), (q_t_z, .inl (G.2 0, 50, .inl t_z)), (q_t_order, .inl (G.2 0, 7, .inl t_order)), (q_t_rowsTaken, .inl (G.2 0, 7, .inl t_rowsTaken)), (q_t_columnsTaken, .inl (G.2 0, 7, .inl t_columnsTaken))] sz)) 0 0 (va_A [(q_t, .inr (9, [.ref q_t_z, .ref q_t_old, .ref q_t_past, .int t_states, .ref q_t_kept, .int t_isKept, .ref q_t_text, .int t_length, .ref q_t_order, .ref q_t_told, .int t_spot, .int t_toldRows, .ref q_t_rowsTaken, .ref q_t_columnsTaken, .ref q_t_ways, .ref q_t_scaled, .ref q_t_rowFactors, .ref q_t_columnFactors, .ref q_t_rest, .ref q_t_diagonals, .ref q_t_weights])), (q_t_z, .inl (G.2 0, 50, .inl t_z)), (q_t_order, .inl (G.2 0, 7, .inl t_order)), (q_t_rowsTaken, .inl (G.2 0, 7, .inl t_rowsTaken)), (q_t_columnsTaken, .inl (G.2 0, 7, .inl t_columnsTaken))] sz) := by
  refine Met.ofW (cc := cX10_sumOfAll) (maxL := 7) (ret := (some .long)) (by decide) rfl ?_
  intro p e s m args below meth c s₁ B hml hv
  obtain ⟨rfl, hsz, hP, hK, hD0⟩ := hv
  subst hsz
  have hD := hD0.self (sz := s.heap.size)
  generalize hAe : va_A [(q_t, .inr (9, [.ref q_t_z, .ref q_t_old, .ref q_t_past, .int t_states, .ref q_t_kept, .int t_isKept, .ref q_t_text, .int t_length, .ref q_t_order, .ref q_t_told, .int t_spot, .int t_toldRows, .ref q_t_rowsTaken, .ref q_t_columnsTaken, .ref q_t_ways, .ref q_t_scaled, .ref q_t_rowFactors, .ref q_t_columnFactors, .ref q_t_rest, .ref q_t_diagonals, .ref q_t_weights])), (q_t_z, .inl (G.2 0, 50, .inl t_z)), (q_t_order, .inl (G.2 0, 7, .inl t_order)), (q_t_rowsTaken, .inl (G.2 0, 7, .inl t_rowsTaken)), (q_t_columnsTaken, .inl (G.2 0, 7, .inl t_columnsTaken))] s.heap.size = A at hD ⊢
  have hA : ∀ q : Nat, s.heap.size ≤ q → A q := fun q h => by rw [← hAe]; exact Or.inr h
  have hl := lv_entry ([.ref q_t, .int a1, .int a2]) (n := 7) (Nat.le_of_ble_eq_true rfl)
  rw [lg_entry_eq]
  refine k_X10_sumOfAll ⟨B.exec, B.bytes, hml, findClass_of_methodNamed B.named, atoms_spec (ws := wsX10_sumOfAll) B.pre⟩ G hK hA q_t q_t_z q_t_old q_t_past q_t_kept q_t_text q_t_order q_t_told q_t_rowsTaken q_t_columnsTaken q_t_ways q_t_scaled q_t_rowFactors q_t_columnFactors q_t_rest q_t_diagonals q_t_weights _ _ _ _ _ _ _ _ _ _ _ _ _ _ _ h ?_ _ _ _ hP hD va_S.rf hl
  intro H locs ls pc hd hP hD hS
  exact W.lret B.exec B.bytes B.returns (fun t ht hW => ⟨⟨r, (), rfl, rfl, by rw [ht]; exact hP, hD⟩, hS.F ht⟩) hS.2.2 hd B.notSynchronized
set_option maxRecDepth 20000 in
theorem wd_X10_sumOf_1 : Cond.fieldLink RX10 7 "PermanentDeskModel" "z" "[I" ∈ wsX10_sumOf := List.mem_of_getElem? (i := 1) (by decide +kernel)
set_option maxRecDepth 20000 in
theorem wi_X10_sumOf_X10 : ∀ w ∈ u_ws RX10 TX10 21, w ∈ wsX10_sumOf := by decide +kernel
set_option maxRecDepth 20000 in
theorem wd_X10_sumOf_2 : Cond.constantLong RX10 189 (-9000000000000000002) ∈ wsX10_sumOf := List.mem_of_getElem? (i := 2) (by decide +kernel)
def f_X10_sumOf (t_z : Nat → Int32) (t_order : Nat → Int32) (t_rowsTaken : Nat → Int32) (t_columnsTaken : Nat → Int32) (a1 : Int32) : Option (Int64 × (Nat → Int32) × (Nat → Int32) × (Nat → Int32)) :=
  gd (okI (49 : Int32) 50) (
  (f_X10_in a1 (0 : Int32) (t_z (49 : Int32).toNatClampNeg)).bind (fun r_2 =>
  if r_2 = 0 then
    some ((-9000000000000000002 : Int64), t_order, t_rowsTaken, t_columnsTaken)
  else
    (f_X10_sumOfAll t_z t_order t_rowsTaken t_columnsTaken a1 (0 : Int32)).bind (fun (r_8, t_order_5, t_rowsTaken_6, t_columnsTaken_7) =>
    some (r_8, t_order_5, t_rowsTaken_6, t_columnsTaken_7))))
set_option maxHeartbeats 4000000 in
set_option maxRecDepth 100000 in
theorem k_X10_sumOf {p : Program} {l : Launch} {e : Env} {s : State} {m : MethodId} {args : Array Value} {below : List Frame} {meth : Method} {c : Code} {Q : State → Prop} {A0 : Nat → Prop} {H0 : Heap} (C : CallFix p m c cX10_sumOf 2 s args wsX10_sumOf RX10) (G : GT) (hK : gK G s) (hA : ∀ q : Nat, H0.size ≤ q → A0 q) (q_t q_t_z q_t_old q_t_past q_t_kept q_t_text q_t_order q_t_told q_t_rowsTaken q_t_columnsTaken q_t_ways q_t_scaled q_t_rowFactors q_t_columnFactors q_t_rest q_t_diagonals q_t_weights : Nat) (t_states : Int32) (t_isKept : Int32) (t_length : Int32) (t_spot : Int32) (t_toldRows : Int32) (t_z : Nat → Int32) (t_order : Nat → Int32) (t_rowsTaken : Nat → Int32) (t_columnsTaken : Nat → Int32) (a1 : Int32) (r : Int64) (o_t_order : Nat → Int32) (o_t_rowsTaken : Nat → Int32) (o_t_columnsTaken : Nat → Int32) (h : f_X10_sumOf t_z t_order t_rowsTaken t_columnsTaken a1 = some (r, o_t_order, o_t_rowsTaken, o_t_columnsTaken)) (KR : ∀ (H : Heap) (locs : List Loc) (ls : Array Slot) (pc : Nat), decode cX10_sumOf pc = .ok (.lreturn, 1) → va_P G.1 vwCl [(q_t, .inr (9, [.ref q_t_z, .ref q_t_old, .ref q_t_past, .int t_states, .ref q_t_kept, .int t_isKept, .ref q_t_text, .int t_length, .ref q_t_order, .ref q_t_told, .int t_spot, .int t_toldRows, .ref q_t_rowsTaken, .ref q_t_columnsTaken, .ref q_t_ways, .ref q_t_scaled, .ref q_t_rowFactors, .ref q_t_columnFactors, .ref q_t_rest, .ref q_t_diagonals, .ref q_t_weights])), (q_t_z, .inl (G.2 0, 50, .inl t_z)), (q_t_order, .inl (G.2 0, 7, .inl o_t_order)), (q_t_rowsTaken, .inl (G.2 0, 7, .inl o_t_rowsTaken)), (q_t_columnsTaken, .inl (G.2 0, 7, .inl o_t_columnsTaken))] H → va_D A0 [(q_t, .inr (9, [.ref q_t_z, .ref q_t_old, .ref q_t_past, .int t_states, .ref q_t_kept, .int t_isKept, .ref q_t_text, .int t_length, .ref q_t_order, .ref q_t_told, .int t_spot, .int t_toldRows, .ref q_t_rowsTaken, .ref q_t_columnsTaken, .ref q_t_ways, .ref q_t_scaled, .ref q_t_rowFactors, .ref q_t_columnFactors, .ref q_t_rest, .ref q_t_diagonals, .ref q_t_weights])), (q_t_z, .inl (G.2 0, 50, .inl t_z)), (q_t_order, .inl (G.2 0, 7, .inl o_t_order)), (q_t_rowsTaken, .inl (G.2 0, 7, .inl o_t_rowsTaken)), (q_t_columnsTaken, .inl (G.2 0, 7, .inl o_t_columnsTaken))] → va_S A0 H0 H locs → W p l e ({ frames := 4, cells := 0, slots := 0, locals := 103 } : Room) s m args below meth c H locs 0 0 Q (F0 m pc ls [.long r])) : ∀ (H : Heap) (locs : List Loc) (ls : Array Slot), va_P G.1 vwCl [(q_t, .inr (9, [.ref q_t_z, .ref q_t_old, .ref q_t_past, .int t_states, .ref q_t_kept, .int t_isKept, .ref q_t_text, .int t_length, .ref q_t_order, .ref q_t_told, .int t_spot, .int t_toldRows, .ref q_t_rowsTaken, .ref q_t_columnsTaken, .ref q_t_ways, .ref q_t_scaled, .ref q_t_rowFactors, .ref q_t_columnFactors, .ref q_t_rest, .ref q_t_diagonals, .ref q_t_weights])), (q_t_z, .inl (G.2 0, 50, .inl t_z)), (q_t_order, .inl (G.2 0, 7, .inl t_order)), (q_t_rowsTaken, .inl (G.2 0, 7, .inl t_rowsTaken)), (q_t_columnsTaken, .inl (G.2 0, 7, .inl t_columnsTaken))] H → va_D A0 [(q_t, .inr (9, [.ref q_t_z, .ref q_t_old, .ref q_t_past, .int t_states, .ref q_t_kept, .int t_isKept, .ref q_t_text, .int t_length, .ref q_t_order, .ref q_t_told, .int t_spot, .int t_toldRows, .ref q_t_rowsTaken, .ref q_t_columnsTaken, .ref q_t_ways, .ref q_t_scaled, .ref q_t_rowFactors, .ref q_t_columnFactors, .ref q_t_rest, .ref q_t_diagonals, .ref q_t_weights])), (q_t_z, .inl (G.2 0, 50, .inl t_z)), (q_t_order, .inl (G.2 0, 7, .inl t_order)), (q_t_rowsTaken, .inl (G.2 0, 7, .inl t_rowsTaken)), (q_t_columnsTaken, .inl (G.2 0, 7, .inl t_columnsTaken))] → va_S A0 H0 H locs → lv_has ls 2 [(0, .ref q_t), (1, .int a1)] → W p l e ({ frames := 4, cells := 0, slots := 0, locals := 103 } : Room) s m args below meth c H locs 0 0 Q (F0 m 0 ls []) := by
  obtain ⟨hx, hb, hml, hown, hts⟩ := C
  intro H locs ls hP hD hS hl
  rw [f_X10_sumOf] at h
  refine lv_iload_n hx hb dX10_sumOf_0 rfl (lv_at hl 1 rfl) ?_
  refine lv_iconst (v := 0) hx hb dX10_sumOf_1 (by decide) ?_
  refine lv_aload_n hx hb dX10_sumOf_2 rfl (lv_at hl 0 rfl) ?_
  refine va_get (D := G.1) (ci := 9) (v := .ref q_t_z) (C := RX10) (T := TX10) (N := 21) hx hb hts wi_X10_sumOf_X10 hown hK hP 0 rfl rfl 0 (by decide) (hts _ wd_X10_sumOf_1) (fun _ h9 => h9) rfl dX10_sumOf_3 ?_
  refine lv_bipush (v := 49) hx hb dX10_sumOf_6 (by decide) ?_
  obtain ⟨g_1, h⟩ := gd_ok h
  refine va_iald (D := G.1) hx hb hK hP 1 0 rfl rfl g_1 dX10_sumOf_8 ?_
  obtain ⟨r_2, hf_3, h⟩ := bd_ok h
  refine ck_Si (rest := []) (wn := [(q_t, .inr (9, [.ref q_t_z, .ref q_t_old, .ref q_t_past, .int t_states, .ref q_t_kept, .int t_isKept, .ref q_t_text, .int t_length, .ref q_t_order, .ref q_t_told, .int t_spot, .int t_toldRows, .ref q_t_rowsTaken, .ref q_t_columnsTaken, .ref q_t_ways, .ref q_t_scaled, .ref q_t_rowFactors, .ref q_t_columnFactors, .ref q_t_rest, .ref q_t_diagonals, .ref q_t_weights])), (q_t_z, .inl (G.2 0, 50, .inl t_z)), (q_t_order, .inl (G.2 0, 7, .inl t_order)), (q_t_rowsTaken, .inl (G.2 0, 7, .inl t_rowsTaken)), (q_t_columnsTaken, .inl (G.2 0, 7, .inl t_columnsTaken))]) ⟨hx, hb, hml, hown, hts⟩ hK hP hD hS hA [] [0, 1, 2, 3, 4] [0, 1, 2, 3, 4] (c_X10_in l G _ a1 (0 : Int32) (t_z (49 : Int32).toNatClampNeg) _ hf_3) (cwS 3 hts gX10_sumOf_X10_in rfl rfl rfl (by decide +kernel) ⟨Nat.le_of_ble_eq_true rfl, Nat.le_of_ble_eq_true rfl⟩) rfl rfl rfl rfl (by decide) rfl rfl rfl hl.1 rfl (Nat.le_of_ble_eq_true rfl) dX10_sumOf_9 ⟨Nat.zero_le _, Nat.zero_le _⟩ (fun H locs hP hD hS => ?_)
  refine lv_if_eq (tgt := 24) hx hb dX10_sumOf_12 (by decide) (fun c_4 => ?_) (fun c_4 => ?_)
  · replace h := it_t h c_4
    refine lv_ldc2 (v := -9000000000000000002) hx hb hown (hts _ wd_X10_sumOf_2) dX10_sumOf_24 ?_
    obtain ⟨rfl, rfl, rfl, rfl⟩ := sm4 h
    exact KR H locs ls 27 dX10_sumOf_27 hP hD hS
  · replace h := it_f h c_4
    refine lv_aload_n hx hb dX10_sumOf_15 rfl (lv_at hl 0 rfl) ?_
    refine lv_iload_n hx hb dX10_sumOf_16 rfl (lv_at hl 1 rfl) ?_
    refine lv_iconst (v := 0) hx hb dX10_sumOf_17 (by decide) ?_
    obtain ⟨⟨r_8, t_order_5, t_rowsTaken_6, t_columnsTaken_7⟩, hf_9, h⟩ := bd_ok h
    refine ck_Vl (rest := []) (wn := [(q_t, .inr (9, [.ref q_t_z, .ref q_t_old, .ref q_t_past, .int t_states, .ref q_t_kept, .int t_isKept, .ref q_t_text, .int t_length, .ref q_t_order, .ref q_t_told, .int t_spot, .int t_toldRows, .ref q_t_rowsTaken, .ref q_t_columnsTaken, .ref q_t_ways, .ref q_t_scaled, .ref q_t_rowFactors, .ref q_t_columnFactors, .ref q_t_rest, .ref q_t_diagonals, .ref q_t_weights])), (q_t_z, .inl (G.2 0, 50, .inl t_z)), (q_t_order, .inl (G.2 0, 7, .inl t_order_5)), (q_t_rowsTaken, .inl (G.2 0, 7, .inl t_rowsTaken_6)), (q_t_columnsTaken, .inl (G.2 0, 7, .inl t_columnsTaken_7))]) ⟨hx, hb, hml, hown, hts⟩ hK hP hD hS hA [0, 1, 2, 3, 4] [] [0, 1, 2, 3, 4] (c_X10_sumOfAll l G q_t q_t_z q_t_old q_t_past q_t_kept q_t_text q_t_order q_t_told q_t_rowsTaken q_t_columnsTaken q_t_ways q_t_scaled q_t_rowFactors q_t_columnFactors q_t_rest q_t_diagonals q_t_weights _ t_states t_isKept t_length t_spot t_toldRows t_z t_order t_rowsTaken t_columnsTaken a1 (0 : Int32) _ _ _ _ hf_9) (cwV 2 hts gX10_sumOf_X10_sumOfAll rfl rfl rfl (by decide +kernel) ⟨Nat.le_of_ble_eq_true rfl, Nat.le_of_ble_eq_true rfl⟩) rfl rfl rfl rfl rfl rfl (by decide) rfl rfl rfl hl.1 rfl (Nat.le_of_ble_eq_true rfl) dX10_sumOf_18 ⟨Nat.zero_le _, Nat.zero_le _⟩ (fun H locs hP hD hS => ?_)
    refine lv_goto (tgt := 27) hx hb dX10_sumOf_21 (by decide) ?_
    obtain ⟨rfl, rfl, rfl, rfl⟩ := sm4 h
    exact KR H locs ls 27 dX10_sumOf_27 hP hD hS
set_option maxHeartbeats 4000000 in
set_option maxRecDepth 100000 in
theorem c_X10_sumOf (l : Launch) (G : GT) (q_t q_t_z q_t_old q_t_past q_t_kept q_t_text q_t_order q_t_told q_t_rowsTaken q_t_columnsTaken q_t_ways q_t_scaled q_t_rowFactors q_t_columnFactors q_t_rest q_t_diagonals q_t_weights : Nat) (sz : Nat) (t_states : Int32) (t_isKept : Int32) (t_length : Int32) (t_spot : Int32) (t_toldRows : Int32) (t_z : Nat → Int32) (t_order : Nat → Int32) (t_rowsTaken : Nat → Int32) (t_columnsTaken : Nat → Int32) (a1 : Int32) (r : Int64) (o_t_order : Nat → Int32) (o_t_rowsTaken : Nat → Int32) (o_t_columnsTaken : Nat → Int32) (h : f_X10_sumOf t_z t_order t_rowsTaken t_columnsTaken a1 = some (r, o_t_order, o_t_rowsTaken, o_t_columnsTaken)) : Met l yX10_sumOf wsX10_sumOf ({ frames := 4, cells := 0, slots := 0, locals := 103 } : Room) (va_Pc [.ref q_t, .int a1] (pcW G [(q_t, .inr (9, [.ref q_t_z, .ref q_t_old, .ref q_t_past, .int t_states, .ref q_t_kept, .int t_isKept, .ref q_t_text, .int t_length, .ref q_t_order, .ref q_t_told, .int t_spot, .int t_toldRows, .ref q_t_rowsTaken, .ref q_t_columnsTaken, .ref q_t_ways, .ref q_t_scaled, .ref q_t_rowFactors, .ref q_t_columnFactors, .ref q_t_rest, .ref q_t_diagonals, .ref q_t_weights])), (q_t_z, .inl (G.2 0, 50, .inl t_z)), (q_t_order, .inl (G.2 0, 7, .inl t_order)), (q_t_rowsTaken, .inl (G.2 0, 7, .inl t_rowsTaken)), (q_t_columnsTaken, .inl (G.2 0, 7, .inl t_columnsTaken))] sz)) (va_Ql (fun r9 (_ : Unit) => r9 = r) (fun _ t => atW G (va_A [(q_t, .inr (9, [.ref q_t_z, .ref q_t_old, .ref q_t_past, .int t_states, .ref q_t_kept, .int t_isKept, .ref q_t_text, .int t_length, .ref q_t_order, .ref q_t_told, .int t_spot, .int t_toldRows, .ref q_t_rowsTaken, .ref q_t_columnsTaken, .ref q_t_ways, .ref q_t_scaled, .ref q_t_rowFactors, .ref q_t_columnFactors, .ref q_t_rest, .ref q_t_diagonals, .ref q_t_weights])), (q_t_z, .inl (G.2 0, 50, .inl t_z)), (q_t_order, .inl (G.2 0, 7, .inl t_order)), (q_t_rowsTaken, .inl (G.2 0, 7, .inl t_rowsTaken)), (q_t_columnsTaken, .inl (G.2 0, 7, .inl t_columnsTaken))] sz) [(q_t, .inr (9, [.ref q_t_z, .ref q_t_old, .ref q_t_past, .int t_states, .ref q_t_kept, .int t_isKept, .ref q_t_text, .int t_length, .ref q_t_order, .ref q_t_told, .int t_spot, .int t_toldRows, .ref q_t_rowsTaken, .ref q_t_columnsTaken, .ref q_t_ways, .ref q_t_scaled, .ref q_t_rowFactors, .ref q_t_columnFactors, .ref q_t_rest, .ref q_t_diagonals, .ref q_t_weights])), (q_t_z, .inl (G.2 0, 50, .inl t_z)), (q_t_order, .inl (G.2 0, 7, .inl o_t_order)), (q_t_rowsTaken, .inl (G.2 0, 7, .inl o_t_rowsTaken)), (q_t_columnsTaken, .inl (G.2 0, 7, .inl o_t_columnsTaken))] t) (va_A [(q_t, .inr (9, [.ref q_t_z, .ref q_t_old, .ref q_t_past, .int t_states, .ref q_t_kept, .int t_isKept, .ref q_t_text, .int t_length, .ref q_t_order, .ref q_t_told, .int t_spot, .int t_toldRows, .ref q_t_rowsTaken, .ref q_t_columnsTaken, .ref q_t_ways, .ref q_t_scaled, .ref q_t_rowFactors, .ref q_t_columnFactors, .ref q_t_rest, .ref q_t_diagonals, .ref q_t_weights])), (q_t_z, .inl (G.2 0, 50, .inl t_z)), (q_t_order, .inl (G.2 0, 7, .inl t_order)), (q_t_rowsTaken, .inl (G.2 0, 7, .inl t_rowsTaken)), (q_t_columnsTaken, .inl (G.2 0, 7, .inl t_columnsTaken))] sz)) 0 0 (va_A [(q_t, .inr (9, [.ref q_t_z, .ref q_t_old, .ref q_t_past, .int t_states, .ref q_t_kept, .int t_isKept, .ref q_t_text, .int t_length, .ref q_t_order, .ref q_t_told, .int t_spot, .int t_toldRows, .ref q_t_rowsTaken, .ref q_t_columnsTaken, .ref q_t_ways, .ref q_t_scaled, .ref q_t_rowFactors, .ref q_t_columnFactors, .ref q_t_rest, .ref q_t_diagonals, .ref q_t_weights])), (q_t_z, .inl (G.2 0, 50, .inl t_z)), (q_t_order, .inl (G.2 0, 7, .inl t_order)), (q_t_rowsTaken, .inl (G.2 0, 7, .inl t_rowsTaken)), (q_t_columnsTaken, .inl (G.2 0, 7, .inl t_columnsTaken))] sz) := by
  refine Met.ofW (cc := cX10_sumOf) (maxL := 2) (ret := (some .long)) (by decide) rfl ?_
  intro p e s m args below meth c s₁ B hml hv
  obtain ⟨rfl, hsz, hP, hK, hD0⟩ := hv
  subst hsz
  have hD := hD0.self (sz := s.heap.size)
  generalize hAe : va_A [(q_t, .inr (9, [.ref q_t_z, .ref q_t_old, .ref q_t_past, .int t_states, .ref q_t_kept, .int t_isKept, .ref q_t_text, .int t_length, .ref q_t_order, .ref q_t_told, .int t_spot, .int t_toldRows, .ref q_t_rowsTaken, .ref q_t_columnsTaken, .ref q_t_ways, .ref q_t_scaled, .ref q_t_rowFactors, .ref q_t_columnFactors, .ref q_t_rest, .ref q_t_diagonals, .ref q_t_weights])), (q_t_z, .inl (G.2 0, 50, .inl t_z)), (q_t_order, .inl (G.2 0, 7, .inl t_order)), (q_t_rowsTaken, .inl (G.2 0, 7, .inl t_rowsTaken)), (q_t_columnsTaken, .inl (G.2 0, 7, .inl t_columnsTaken))] s.heap.size = A at hD ⊢
  have hA : ∀ q : Nat, s.heap.size ≤ q → A q := fun q h => by rw [← hAe]; exact Or.inr h
  have hl := lv_entry ([.ref q_t, .int a1]) (n := 2) (Nat.le_of_ble_eq_true rfl)
  rw [lg_entry_eq]
  refine k_X10_sumOf ⟨B.exec, B.bytes, hml, findClass_of_methodNamed B.named, atoms_spec (ws := wsX10_sumOf) B.pre⟩ G hK hA q_t q_t_z q_t_old q_t_past q_t_kept q_t_text q_t_order q_t_told q_t_rowsTaken q_t_columnsTaken q_t_ways q_t_scaled q_t_rowFactors q_t_columnFactors q_t_rest q_t_diagonals q_t_weights _ _ _ _ _ _ _ _ _ _ _ _ _ _ h ?_ _ _ _ hP hD va_S.rf hl
  intro H locs ls pc hd hP hD hS
  exact W.lret B.exec B.bytes B.returns (fun t ht hW => ⟨⟨r, (), rfl, rfl, by rw [ht]; exact hP, hD⟩, hS.F ht⟩) hS.2.2 hd B.notSynchronized
set_option maxRecDepth 20000 in
theorem wd_X10_isWhole_1 : Cond.fieldLink RX10 7 "PermanentDeskModel" "z" "[I" ∈ wsX10_isWhole := List.mem_of_getElem? (i := 1) (by decide +kernel)
set_option maxRecDepth 20000 in
theorem wi_X10_isWhole_X10 : ∀ w ∈ u_ws RX10 TX10 21, w ∈ wsX10_isWhole := by decide +kernel
set_option maxRecDepth 20000 in
theorem wd_X10_isWhole_2 : Cond.fieldLink RX10 25 "PermanentDeskModel" "order" "[I" ∈ wsX10_isWhole := List.mem_of_getElem? (i := 2) (by decide +kernel)
def f_X10_isWhole_L1 (n_a1 : Nat) (t_z : Nat → Int32) (t_order : Nat → Int32) (a1 : Nat → Int32) : (Int32 × Int32) → Option ((Int32 × Int32) ⊕ Int32)
  | (x2, x3) =>
    gd (okI (49 : Int32) 50) (
    if (t_z (49 : Int32).toNatClampNeg) ≤ x3 then
      some (.inr x2)
    else
      if x2 = 0 then
        pl ((x3 + (1 : Int32)) : Int32) (fun x3_4 =>
        some (.inl ((0 : Int32), x3_4)))
      else
        gd (okI x3 7) (
        gd (okI (((7 : Int32) * x3) + (t_order x3.toNatClampNeg)) n_a1) (
        if (a1 (((7 : Int32) * x3) + (t_order x3.toNatClampNeg)).toNatClampNeg) = 0 then
          pl ((x3 + (1 : Int32)) : Int32) (fun x3_8 =>
          some (.inl ((0 : Int32), x3_8)))
        else
          pl ((x3 + (1 : Int32)) : Int32) (fun x3_9 =>
          some (.inl ((1 : Int32), x3_9))))))
def f_X10_isWhole (n_a1 : Nat) (t_z : Nat → Int32) (t_order : Nat → Int32) (a1 : Nat → Int32) : Option Int32 :=
  (lpN (f_X10_isWhole_L1 n_a1 t_z t_order a1) FU ((1 : Int32), (0 : Int32))).bind (fun x2_10 =>
  gd (x2_10 = 0 ∨ x2_10 = 1) (
  some x2_10))
set_option maxHeartbeats 4000000 in
set_option maxRecDepth 100000 in
theorem l_X10_isWhole_1 {p : Program} {l : Launch} {e : Env} {s : State} {m : MethodId} {args : Array Value} {below : List Frame} {meth : Method} {c : Code} {Q : State → Prop} {A0 : Nat → Prop} {H0 : Heap} (C : CallFix p m c cX10_isWhole 4 s args wsX10_isWhole RX10) (G : GT) (hK : gK G s) (hA : ∀ q : Nat, H0.size ≤ q → A0 q) (q_t q_t_z q_t_old q_t_past q_t_kept q_t_text q_t_order q_t_told q_t_rowsTaken q_t_columnsTaken q_t_ways q_t_scaled q_t_rowFactors q_t_columnFactors q_t_rest q_t_diagonals q_t_weights q_a1 : Nat) (n_a1 : Nat) (t_states : Int32) (t_isKept : Int32) (t_length : Int32) (t_spot : Int32) (t_toldRows : Int32) (t_z : Nat → Int32) (t_order : Nat → Int32) (a1 : Nat → Int32) (E_x2 : Int32) (K : ∀ (H : Heap) (locs : List Loc) (ls : Array Slot), va_P G.1 vwCl [(q_t, .inr (9, [.ref q_t_z, .ref q_t_old, .ref q_t_past, .int t_states, .ref q_t_kept, .int t_isKept, .ref q_t_text, .int t_length, .ref q_t_order, .ref q_t_told, .int t_spot, .int t_toldRows, .ref q_t_rowsTaken, .ref q_t_columnsTaken, .ref q_t_ways, .ref q_t_scaled, .ref q_t_rowFactors, .ref q_t_columnFactors, .ref q_t_rest, .ref q_t_diagonals, .ref q_t_weights])), (q_t_z, .inl (G.2 0, 50, .inl t_z)), (q_t_order, .inl (G.2 0, 7, .inl t_order)), (q_a1, .inl (G.2 0, n_a1, .inl a1))] H → va_D A0 [(q_t, .inr (9, [.ref q_t_z, .ref q_t_old, .ref q_t_past, .int t_states, .ref q_t_kept, .int t_isKept, .ref q_t_text, .int t_length, .ref q_t_order, .ref q_t_told, .int t_spot, .int t_toldRows, .ref q_t_rowsTaken, .ref q_t_columnsTaken, .ref q_t_ways, .ref q_t_scaled, .ref q_t_rowFactors, .ref q_t_columnFactors, .ref q_t_rest, .ref q_t_diagonals, .ref q_t_weights])), (q_t_z, .inl (G.2 0, 50, .inl t_z)), (q_t_order, .inl (G.2 0, 7, .inl t_order)), (q_a1, .inl (G.2 0, n_a1, .inl a1))] → va_S A0 H0 H locs → lv_has ls 4 [(2, .int E_x2)] → W p l e ({ frames := 0, cells := 0, slots := 0, locals := 0 } : Room) s m args below meth c H locs 0 0 Q (F0 m 47 ls [])) : ∀ (n : Nat) (x2 : Int32) (x3 : Int32), lpN (f_X10_isWhole_L1 n_a1 t_z t_order a1) n (x2, x3) = some E_x2 → ∀ (H : Heap) (locs : List Loc) (ls : Array Slot), va_P G.1 vwCl [(q_t, .inr (9, [.ref q_t_z, .ref q_t_old, .ref q_t_past, .int t_states, .ref q_t_kept, .int t_isKept, .ref q_t_text, .int t_length, .ref q_t_order, .ref q_t_told, .int t_spot, .int t_toldRows, .ref q_t_rowsTaken, .ref q_t_columnsTaken, .ref q_t_ways, .ref q_t_scaled, .ref q_t_rowFactors, .ref q_t_columnFactors, .ref q_t_rest, .ref q_t_diagonals, .ref q_t_weights])), (q_t_z, .inl (G.2 0, 50, .inl t_z)), (q_t_order, .inl (G.2 0, 7, .inl t_order)), (q_a1, .inl (G.2 0, n_a1, .inl a1))] H → va_D A0 [(q_t, .inr (9, [.ref q_t_z, .ref q_t_old, .ref q_t_past, .int t_states, .ref q_t_kept, .int t_isKept, .ref q_t_text, .int t_length, .ref q_t_order, .ref q_t_told, .int t_spot, .int t_toldRows, .ref q_t_rowsTaken, .ref q_t_columnsTaken, .ref q_t_ways, .ref q_t_scaled, .ref q_t_rowFactors, .ref q_t_columnFactors, .ref q_t_rest, .ref q_t_diagonals, .ref q_t_weights])), (q_t_z, .inl (G.2 0, 50, .inl t_z)), (q_t_order, .inl (G.2 0, 7, .inl t_order)), (q_a1, .inl (G.2 0, n_a1, .inl a1))] → va_S A0 H0 H locs → lv_has ls 4 [(0, .ref q_t), (1, .ref q_a1), (2, .int x2), (3, .int x3)] → W p l e ({ frames := 0, cells := 0, slots := 0, locals := 0 } : Room) s m args below meth c H locs 0 0 Q (F0 m 4 ls []) := by
  obtain ⟨hx, hb, hml, hown, hts⟩ := C
  intro n
  induction n with
  | zero => intro x2 x3 h; exact absurd h (fun h => lp_0 h)
  | succ n ih =>
    intro x2 x3 h H locs ls hP hD hS hl
    obtain ⟨y, h, hk⟩ := lp_s h
    rw [f_X10_isWhole_L1] at h
    refine lv_iload_n hx hb dX10_isWhole_4 rfl (lv_at hl 3 rfl) ?_
    refine lv_aload_n hx hb dX10_isWhole_5 rfl (lv_at hl 0 rfl) ?_
    refine va_get (D := G.1) (ci := 9) (v := .ref q_t_z) (C := RX10) (T := TX10) (N := 21) hx hb hts wi_X10_isWhole_X10 hown hK hP 0 rfl rfl 0 (by decide) (hts _ wd_X10_isWhole_1) (fun _ h9 => h9) rfl dX10_isWhole_6 ?_
    refine lv_bipush (v := 49) hx hb dX10_isWhole_9 (by decide) ?_
    obtain ⟨g_1, h⟩ := gd_ok h
    refine va_iald (D := G.1) hx hb hK hP 1 0 rfl rfl g_1 dX10_isWhole_11 ?_
    refine lv_icmp_ge (tgt := 47) hx hb dX10_isWhole_12 (by decide) (fun c_2 => ?_) (fun c_2 => ?_)
    · replace h := it_t h c_2
      obtain rfl := sm1 h
      obtain rfl := sm1 hk
      exact K H locs ls hP hD hS (lv_sub hl [2] rfl)
    · replace h := it_f h c_2
      refine lv_iload_n hx hb dX10_isWhole_15 rfl (lv_at hl 2 rfl) ?_
      refine lv_if_eq (tgt := 39) hx hb dX10_isWhole_16 (by decide) (fun c_3 => ?_) (fun c_3 => ?_)
      · replace h := it_t h c_3
        refine lv_iconst (v := 0) hx hb dX10_isWhole_39 (by decide) ?_
        refine lv_istore_n (lv' := [(2, .int (0 : Int32)), (0, .ref q_t), (1, .ref q_a1), (3, .int x3)]) hx hb dX10_isWhole_40 rfl hl (by decide) rfl (fun ls hl => ?_)
        obtain ⟨x3_4, ex3_4, h⟩ := pl_ok h
        refine lv_iinc (v := x3_4) (lv' := [(3, .int x3_4), (2, .int (0 : Int32)), (0, .ref q_t), (1, .ref q_a1)]) hx hb dX10_isWhole_41 hl (k := 3) rfl (by rw [ex3_4]; rfl) (by decide) rfl (fun ls hl => ?_)
        refine lv_goto (tgt := 4) hx hb dX10_isWhole_44 (by decide) ?_
        obtain rfl := sm1 h
        exact ih (0 : Int32) x3_4 hk H locs ls hP hD hS (lv_sub hl [2, 3, 1, 0] rfl)
      · replace h := it_f h c_3
        refine lv_aload_n hx hb dX10_isWhole_19 rfl (lv_at hl 1 rfl) ?_
        refine lv_bipush (v := 7) hx hb dX10_isWhole_20 (by decide) ?_
        refine lv_iload_n hx hb dX10_isWhole_22 rfl (lv_at hl 3 rfl) ?_
        refine lv_imul hx hb dX10_isWhole_23 ?_
        refine lv_aload_n hx hb dX10_isWhole_24 rfl (lv_at hl 0 rfl) ?_
        refine va_get (D := G.1) (ci := 9) (v := .ref q_t_order) (C := RX10) (T := TX10) (N := 21) hx hb hts wi_X10_isWhole_X10 hown hK hP 0 rfl rfl 8 (by decide) (hts _ wd_X10_isWhole_2) (fun _ h9 => h9) rfl dX10_isWhole_25 ?_
        refine lv_iload_n hx hb dX10_isWhole_28 rfl (lv_at hl 3 rfl) ?_
        obtain ⟨g_5, h⟩ := gd_ok h
        refine va_iald (D := G.1) hx hb hK hP 2 0 rfl rfl g_5 dX10_isWhole_29 ?_
        refine lv_iadd hx hb dX10_isWhole_30 ?_
        obtain ⟨g_6, h⟩ := gd_ok h
        refine va_iald (D := G.1) hx hb hK hP 3 0 rfl rfl g_6 dX10_isWhole_31 ?_
        refine lv_if_eq (tgt := 39) hx hb dX10_isWhole_32 (by decide) (fun c_7 => ?_) (fun c_7 => ?_)
        · replace h := it_t h c_7
          refine lv_iconst (v := 0) hx hb dX10_isWhole_39 (by decide) ?_
          refine lv_istore_n (lv' := [(2, .int (0 : Int32)), (0, .ref q_t), (1, .ref q_a1), (3, .int x3)]) hx hb dX10_isWhole_40 rfl hl (by decide) rfl (fun ls hl => ?_)
          obtain ⟨x3_8, ex3_8, h⟩ := pl_ok h
          refine lv_iinc (v := x3_8) (lv' := [(3, .int x3_8), (2, .int (0 : Int32)), (0, .ref q_t), (1, .ref q_a1)]) hx hb dX10_isWhole_41 hl (k := 3) rfl (by rw [ex3_8]; rfl) (by decide) rfl (fun ls hl => ?_)
          refine lv_goto (tgt := 4) hx hb dX10_isWhole_44 (by decide) ?_
          obtain rfl := sm1 h
          exact ih (0 : Int32) x3_8 hk H locs ls hP hD hS (lv_sub hl [2, 3, 1, 0] rfl)
        · replace h := it_f h c_7
          refine lv_iconst (v := 1) hx hb dX10_isWhole_35 (by decide) ?_
          refine lv_goto (tgt := 40) hx hb dX10_isWhole_36 (by decide) ?_
          refine lv_istore_n (lv' := [(2, .int (1 : Int32)), (0, .ref q_t), (1, .ref q_a1), (3, .int x3)]) hx hb dX10_isWhole_40 rfl hl (by decide) rfl (fun ls hl => ?_)
          obtain ⟨x3_9, ex3_9, h⟩ := pl_ok h
          refine lv_iinc (v := x3_9) (lv' := [(3, .int x3_9), (2, .int (1 : Int32)), (0, .ref q_t), (1, .ref q_a1)]) hx hb dX10_isWhole_41 hl (k := 3) rfl (by rw [ex3_9]; rfl) (by decide) rfl (fun ls hl => ?_)
          refine lv_goto (tgt := 4) hx hb dX10_isWhole_44 (by decide) ?_
          obtain rfl := sm1 h
          exact ih (1 : Int32) x3_9 hk H locs ls hP hD hS (lv_sub hl [2, 3, 1, 0] rfl)
set_option maxHeartbeats 4000000 in
set_option maxRecDepth 100000 in
theorem k_X10_isWhole {p : Program} {l : Launch} {e : Env} {s : State} {m : MethodId} {args : Array Value} {below : List Frame} {meth : Method} {c : Code} {Q : State → Prop} {A0 : Nat → Prop} {H0 : Heap} (C : CallFix p m c cX10_isWhole 4 s args wsX10_isWhole RX10) (G : GT) (hK : gK G s) (hA : ∀ q : Nat, H0.size ≤ q → A0 q) (q_t q_t_z q_t_old q_t_past q_t_kept q_t_text q_t_order q_t_told q_t_rowsTaken q_t_columnsTaken q_t_ways q_t_scaled q_t_rowFactors q_t_columnFactors q_t_rest q_t_diagonals q_t_weights q_a1 : Nat) (n_a1 : Nat) (t_states : Int32) (t_isKept : Int32) (t_length : Int32) (t_spot : Int32) (t_toldRows : Int32) (t_z : Nat → Int32) (t_order : Nat → Int32) (a1 : Nat → Int32) (r : Int32) (h : f_X10_isWhole n_a1 t_z t_order a1 = some r) (KR : ∀ (H : Heap) (locs : List Loc) (ls : Array Slot) (pc : Nat), decode cX10_isWhole pc = .ok (.ireturn, 1) → (r = 0 ∨ r = 1) → va_P G.1 vwCl [(q_t, .inr (9, [.ref q_t_z, .ref q_t_old, .ref q_t_past, .int t_states, .ref q_t_kept, .int t_isKept, .ref q_t_text, .int t_length, .ref q_t_order, .ref q_t_told, .int t_spot, .int t_toldRows, .ref q_t_rowsTaken, .ref q_t_columnsTaken, .ref q_t_ways, .ref q_t_scaled, .ref q_t_rowFactors, .ref q_t_columnFactors, .ref q_t_rest, .ref q_t_diagonals, .ref q_t_weights])), (q_t_z, .inl (G.2 0, 50, .inl t_z)), (q_t_order, .inl (G.2 0, 7, .inl t_order)), (q_a1, .inl (G.2 0, n_a1, .inl a1))] H → va_D A0 [(q_t, .inr (9, [.ref q_t_z, .ref q_t_old, .ref q_t_past, .int t_states, .ref q_t_kept, .int t_isKept, .ref q_t_text, .int t_length, .ref q_t_order, .ref q_t_told, .int t_spot, .int t_toldRows, .ref q_t_rowsTaken, .ref q_t_columnsTaken, .ref q_t_ways, .ref q_t_scaled, .ref q_t_rowFactors, .ref q_t_columnFactors, .ref q_t_rest, .ref q_t_diagonals, .ref q_t_weights])), (q_t_z, .inl (G.2 0, 50, .inl t_z)), (q_t_order, .inl (G.2 0, 7, .inl t_order)), (q_a1, .inl (G.2 0, n_a1, .inl a1))] → va_S A0 H0 H locs → W p l e ({ frames := 0, cells := 0, slots := 0, locals := 0 } : Room) s m args below meth c H locs 0 0 Q (F0 m pc ls [.int r])) : ∀ (H : Heap) (locs : List Loc) (ls : Array Slot), va_P G.1 vwCl [(q_t, .inr (9, [.ref q_t_z, .ref q_t_old, .ref q_t_past, .int t_states, .ref q_t_kept, .int t_isKept, .ref q_t_text, .int t_length, .ref q_t_order, .ref q_t_told, .int t_spot, .int t_toldRows, .ref q_t_rowsTaken, .ref q_t_columnsTaken, .ref q_t_ways, .ref q_t_scaled, .ref q_t_rowFactors, .ref q_t_columnFactors, .ref q_t_rest, .ref q_t_diagonals, .ref q_t_weights])), (q_t_z, .inl (G.2 0, 50, .inl t_z)), (q_t_order, .inl (G.2 0, 7, .inl t_order)), (q_a1, .inl (G.2 0, n_a1, .inl a1))] H → va_D A0 [(q_t, .inr (9, [.ref q_t_z, .ref q_t_old, .ref q_t_past, .int t_states, .ref q_t_kept, .int t_isKept, .ref q_t_text, .int t_length, .ref q_t_order, .ref q_t_told, .int t_spot, .int t_toldRows, .ref q_t_rowsTaken, .ref q_t_columnsTaken, .ref q_t_ways, .ref q_t_scaled, .ref q_t_rowFactors, .ref q_t_columnFactors, .ref q_t_rest, .ref q_t_diagonals, .ref q_t_weights])), (q_t_z, .inl (G.2 0, 50, .inl t_z)), (q_t_order, .inl (G.2 0, 7, .inl t_order)), (q_a1, .inl (G.2 0, n_a1, .inl a1))] → va_S A0 H0 H locs → lv_has ls 4 [(0, .ref q_t), (1, .ref q_a1)] → W p l e ({ frames := 0, cells := 0, slots := 0, locals := 0 } : Room) s m args below meth c H locs 0 0 Q (F0 m 0 ls []) := by
  obtain ⟨hx, hb, hml, hown, hts⟩ := C
  intro H locs ls hP hD hS hl
  rw [f_X10_isWhole] at h
  refine lv_iconst (v := 1) hx hb dX10_isWhole_0 (by decide) ?_
  refine lv_istore_n (lv' := [(2, .int (1 : Int32)), (0, .ref q_t), (1, .ref q_a1)]) hx hb dX10_isWhole_1 rfl hl (by decide) rfl (fun ls hl => ?_)
  refine lv_iconst (v := 0) hx hb dX10_isWhole_2 (by decide) ?_
  refine lv_istore_n (lv' := [(3, .int (0 : Int32)), (2, .int (1 : Int32)), (0, .ref q_t), (1, .ref q_a1)]) hx hb dX10_isWhole_3 rfl hl (by decide) rfl (fun ls hl => ?_)
  obtain ⟨x2_10, hz_12, h⟩ := bd_ok h
  refine l_X10_isWhole_1 ⟨hx, hb, hml, hown, hts⟩ G hK hA q_t q_t_z q_t_old q_t_past q_t_kept q_t_text q_t_order q_t_told q_t_rowsTaken q_t_columnsTaken q_t_ways q_t_scaled q_t_rowFactors q_t_columnFactors q_t_rest q_t_diagonals q_t_weights q_a1 n_a1 t_states t_isKept t_length t_spot t_toldRows t_z t_order a1 x2_10 ?_ FU (1 : Int32) (0 : Int32) hz_12 H locs ls hP hD hS (lv_sub hl [2, 3, 1, 0] rfl)
  intro H locs ls hP hD hS hl
  refine lv_iload_n hx hb dX10_isWhole_47 rfl (lv_at hl 0 rfl) ?_
  obtain ⟨g_13, h⟩ := gd_ok h
  obtain rfl := sm1 h
  exact KR H locs ls 48 dX10_isWhole_48 g_13 hP hD hS
set_option maxHeartbeats 4000000 in
set_option maxRecDepth 100000 in
theorem c_X10_isWhole (l : Launch) (G : GT) (q_t q_t_z q_t_old q_t_past q_t_kept q_t_text q_t_order q_t_told q_t_rowsTaken q_t_columnsTaken q_t_ways q_t_scaled q_t_rowFactors q_t_columnFactors q_t_rest q_t_diagonals q_t_weights q_a1 : Nat) (sz : Nat) (n_a1 : Nat) (t_states : Int32) (t_isKept : Int32) (t_length : Int32) (t_spot : Int32) (t_toldRows : Int32) (t_z : Nat → Int32) (t_order : Nat → Int32) (a1 : Nat → Int32) (r : Int32) (h : f_X10_isWhole n_a1 t_z t_order a1 = some r) : Met l yX10_isWhole wsX10_isWhole ({ frames := 0, cells := 0, slots := 0, locals := 0 } : Room) (va_Pc [.ref q_t, .ref q_a1] (pcW G [(q_t, .inr (9, [.ref q_t_z, .ref q_t_old, .ref q_t_past, .int t_states, .ref q_t_kept, .int t_isKept, .ref q_t_text, .int t_length, .ref q_t_order, .ref q_t_told, .int t_spot, .int t_toldRows, .ref q_t_rowsTaken, .ref q_t_columnsTaken, .ref q_t_ways, .ref q_t_scaled, .ref q_t_rowFactors, .ref q_t_columnFactors, .ref q_t_rest, .ref q_t_diagonals, .ref q_t_weights])), (q_t_z, .inl (G.2 0, 50, .inl t_z)), (q_t_order, .inl (G.2 0, 7, .inl t_order)), (q_a1, .inl (G.2 0, n_a1, .inl a1))] sz)) (va_Qi (fun r9 (_ : Unit) => r9 = r) (fun _ t => atW G (va_A [(q_t, .inr (9, [.ref q_t_z, .ref q_t_old, .ref q_t_past, .int t_states, .ref q_t_kept, .int t_isKept, .ref q_t_text, .int t_length, .ref q_t_order, .ref q_t_told, .int t_spot, .int t_toldRows, .ref q_t_rowsTaken, .ref q_t_columnsTaken, .ref q_t_ways, .ref q_t_scaled, .ref q_t_rowFactors, .ref q_t_columnFactors, .ref q_t_rest, .ref q_t_diagonals, .ref q_t_weights])), (q_t_z, .inl (G.2 0, 50, .inl t_z)), (q_t_order, .inl (G.2 0, 7, .inl t_order)), (q_a1, .inl (G.2 0, n_a1, .inl a1))] sz) [(q_t, .inr (9, [.ref q_t_z, .ref q_t_old, .ref q_t_past, .int t_states, .ref q_t_kept, .int t_isKept, .ref q_t_text, .int t_length, .ref q_t_order, .ref q_t_told, .int t_spot, .int t_toldRows, .ref q_t_rowsTaken, .ref q_t_columnsTaken, .ref q_t_ways, .ref q_t_scaled, .ref q_t_rowFactors, .ref q_t_columnFactors, .ref q_t_rest, .ref q_t_diagonals, .ref q_t_weights])), (q_t_z, .inl (G.2 0, 50, .inl t_z)), (q_t_order, .inl (G.2 0, 7, .inl t_order)), (q_a1, .inl (G.2 0, n_a1, .inl a1))] t) (va_A [(q_t, .inr (9, [.ref q_t_z, .ref q_t_old, .ref q_t_past, .int t_states, .ref q_t_kept, .int t_isKept, .ref q_t_text, .int t_length, .ref q_t_order, .ref q_t_told, .int t_spot, .int t_toldRows, .ref q_t_rowsTaken, .ref q_t_columnsTaken, .ref q_t_ways, .ref q_t_scaled, .ref q_t_rowFactors, .ref q_t_columnFactors, .ref q_t_rest, .ref q_t_diagonals, .ref q_t_weights])), (q_t_z, .inl (G.2 0, 50, .inl t_z)), (q_t_order, .inl (G.2 0, 7, .inl t_order)), (q_a1, .inl (G.2 0, n_a1, .inl a1))] sz)) 0 0 (va_A [(q_t, .inr (9, [.ref q_t_z, .ref q_t_old, .ref q_t_past, .int t_states, .ref q_t_kept, .int t_isKept, .ref q_t_text, .int t_length, .ref q_t_order, .ref q_t_told, .int t_spot, .int t_toldRows, .ref q_t_rowsTaken, .ref q_t_columnsTaken, .ref q_t_ways, .ref q_t_scaled, .ref q_t_rowFactors, .ref q_t_columnFactors, .ref q_t_rest, .ref q_t_diagonals, .ref q_t_weights])), (q_t_z, .inl (G.2 0, 50, .inl t_z)), (q_t_order, .inl (G.2 0, 7, .inl t_order)), (q_a1, .inl (G.2 0, n_a1, .inl a1))] sz) := by
  refine Met.ofW (cc := cX10_isWhole) (maxL := 4) (ret := (some .boolean)) (by decide) rfl ?_
  intro p e s m args below meth c s₁ B hml hv
  obtain ⟨rfl, hsz, hP, hK, hD0⟩ := hv
  subst hsz
  have hD := hD0.self (sz := s.heap.size)
  generalize hAe : va_A [(q_t, .inr (9, [.ref q_t_z, .ref q_t_old, .ref q_t_past, .int t_states, .ref q_t_kept, .int t_isKept, .ref q_t_text, .int t_length, .ref q_t_order, .ref q_t_told, .int t_spot, .int t_toldRows, .ref q_t_rowsTaken, .ref q_t_columnsTaken, .ref q_t_ways, .ref q_t_scaled, .ref q_t_rowFactors, .ref q_t_columnFactors, .ref q_t_rest, .ref q_t_diagonals, .ref q_t_weights])), (q_t_z, .inl (G.2 0, 50, .inl t_z)), (q_t_order, .inl (G.2 0, 7, .inl t_order)), (q_a1, .inl (G.2 0, n_a1, .inl a1))] s.heap.size = A at hD ⊢
  have hA : ∀ q : Nat, s.heap.size ≤ q → A q := fun q h => by rw [← hAe]; exact Or.inr h
  have hl := lv_entry ([.ref q_t, .ref q_a1]) (n := 4) (Nat.le_of_ble_eq_true rfl)
  rw [lg_entry_eq]
  refine k_X10_isWhole ⟨B.exec, B.bytes, hml, findClass_of_methodNamed B.named, atoms_spec (ws := wsX10_isWhole) B.pre⟩ G hK hA q_t q_t_z q_t_old q_t_past q_t_kept q_t_text q_t_order q_t_told q_t_rowsTaken q_t_columnsTaken q_t_ways q_t_scaled q_t_rowFactors q_t_columnFactors q_t_rest q_t_diagonals q_t_weights q_a1 _ _ _ _ _ _ _ _ _ _ h ?_ _ _ _ hP hD va_S.rf hl
  intro H locs ls pc hd hbo hP hD hS
  exact W.zret B.exec B.bytes B.returns (by rcases hbo with e | e <;> subst e <;> rfl) (fun t ht hW => ⟨⟨r, (), rfl, rfl, by rw [ht]; exact hP, hD⟩, hS.F ht⟩) hS.2.2 hd B.notSynchronized
