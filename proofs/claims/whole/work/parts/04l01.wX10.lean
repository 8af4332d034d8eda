set_option maxRecDepth 20000 in
theorem wd_X10_clear_2 : Cond.fieldLink RX10 7 "PermanentDeskModel" "z" "[I" ∈ wsX10_clear := List.mem_of_getElem? (i := 2) (by decide +kernel)
set_option maxRecDepth 20000 in
theorem wi_X10_clear_X10 : ∀ w ∈ u_ws RX10 TX10 21, w ∈ wsX10_clear := by decide +kernel
set_option maxRecDepth 20000 in
theorem wd_X10_clear_1 : Cond.constant RX10 83 (-2000000002) ∈ wsX10_clear := List.mem_of_getElem? (i := 1) (by decide +kernel)
def f_X10_clear (t_states : Int32) (t_z : Nat → Int32) (t_past : Nat → Int32) (a1 : Int32) : Option (Int32 × Int32 × (Nat → Int32) × (Nat → Int32)) :=
  (f_X10_in a1 (1 : Int32) (7 : Int32)).bind (fun r_1 =>
  if r_1 = 0 then
    some ((-2000000002 : Int32), t_states, t_z, t_past)
  else
    (f_X10_record t_states t_z t_past).bind (fun (t_states_4, t_past_5) =>
    gd (okI (49 : Int32) 50) (
    pl ((t_z (49 : Int32).toNatClampNeg) : Int32) (fun x2_8 =>
    (f_X10_clearAll t_z a1).bind (fun t_z_9 =>
    some (x2_8, t_states_4, t_z_9, t_past_5))))))
set_option maxHeartbeats 4000000 in
set_option maxRecDepth 100000 in
theorem k_X10_clear {p : Program} {l : Launch} {e : Env} {s : State} {m : MethodId} {args : Array Value} {below : List Frame} {meth : Method} {c : Code} {Q : State → Prop} {A0 : Nat → Prop} {H0 : Heap} (C : CallFix p m c cX10_clear 3 s args wsX10_clear RX10) (G : GT) (hK : gK G s) (hA : ∀ q : Nat, H0.size ≤ q → A0 q) (q_t q_t_z q_t_old q_t_past q_t_kept q_t_text q_t_order q_t_told q_t_rowsTaken q_t_columnsTaken q_t_ways q_t_scaled q_t_rowFactors q_t_columnFactors q_t_rest q_t_diagonals q_t_weights : Nat) (t_states : Int32) (t_isKept : Int32) (t_length : Int32) (t_spot : Int32) (t_toldRows : Int32) (t_z : Nat → Int32) (t_past : Nat → Int32) (a1 : Int32) (r : Int32) (o_t_states : Int32) (o_t_z : Nat → Int32) (o_t_past : Nat → Int32) (h : f_X10_clear t_states t_z t_past a1 = some (r, o_t_states, o_t_z, o_t_past)) (KR : ∀ (H : Heap) (locs : List Loc) (ls : Array Slot) (pc : Nat), decode cX10_clear pc = .ok (.ireturn, 1) → va_P G.1 vwCl [(q_t, .inr (9, [.ref q_t_z, .ref q_t_old, .ref q_t_past, .int o_t_states, .ref q_t_kept, .int t_isKept, .ref q_t_text, .int t_length, .ref q_t_order, .ref q_t_told, .int t_spot, .int t_toldRows, .ref q_t_rowsTaken, .ref q_t_columnsTaken, .ref q_t_ways, .ref q_t_scaled, .ref q_t_rowFactors, .ref q_t_columnFactors, .ref q_t_rest, .ref q_t_diagonals, .ref q_t_weights])), (q_t_z, .inl (G.2 0, 50, .inl o_t_z)), (q_t_past, .inl (G.2 0, 200, .inl o_t_past))] H → va_D A0 [(q_t, .inr (9, [.ref q_t_z, .ref q_t_old, .ref q_t_past, .int o_t_states, .ref q_t_kept, .int t_isKept, .ref q_t_text, .int t_length, .ref q_t_order, .ref q_t_told, .int t_spot, .int t_toldRows, .ref q_t_rowsTaken, .ref q_t_columnsTaken, .ref q_t_ways, .ref q_t_scaled, .ref q_t_rowFactors, .ref q_t_columnFactors, .ref q_t_rest, .ref q_t_diagonals, .ref q_t_weights])), (q_t_z, .inl (G.2 0, 50, .inl o_t_z)), (q_t_past, .inl (G.2 0, 200, .inl o_t_past))] → va_S A0 H0 H locs → W p l e ({ frames := 3, cells := 0, slots := 0, locals := 66 } : Room) s m args below meth c H locs 0 0 Q (F0 m pc ls [.int r])) : ∀ (H : Heap) (locs : List Loc) (ls : Array Slot), va_P G.1 vwCl [(q_t, .inr (9, [.ref q_t_z, .ref q_t_old, .ref q_t_past, .int t_states, .ref q_t_kept, .int t_isKept, .ref q_t_text, .int t_length, .ref q_t_order, .ref q_t_told, .int t_spot, .int t_toldRows, .ref q_t_rowsTaken, .ref q_t_columnsTaken, .ref q_t_ways, .ref q_t_scaled, .ref q_t_rowFactors, .ref q_t_columnFactors, .ref q_t_rest, .ref q_t_diagonals, .ref q_t_weights])), (q_t_z, .inl (G.2 0, 50, .inl t_z)), (q_t_past, .inl (G.2 0, 200, .inl t_past))] H → va_D A0 [(q_t, .inr (9, [.ref q_t_z, .ref q_t_old, .ref q_t_past, .int t_states, .ref q_t_kept, .int t_isKept, .ref q_t_text, .int t_length, .ref q_t_order, .ref q_t_told, .int t_spot, .int t_toldRows, .ref q_t_rowsTaken, .ref q_t_columnsTaken, .ref q_t_ways, .ref q_t_scaled, .ref q_t_rowFactors, .ref q_t_columnFactors, .ref q_t_rest, .ref q_t_diagonals, .ref q_t_weights])), (q_t_z, .inl (G.2 0, 50, .inl t_z)), (q_t_past, .inl (G.2 0, 200, .inl t_past))] → va_S A0 H0 H locs → lv_has ls 3 [(0, .ref q_t), (1, .int a1)] → W p l e ({ frames := 3, cells := 0, slots := 0, locals := 66 } : Room) s m args below meth c H locs 0 0 Q (F0 m 0 ls []) := by
  obtain ⟨hx, hb, hml, hown, hts⟩ := C
  intro H locs ls hP hD hS hl
  rw [f_X10_clear] at h
  refine lv_iload_n hx hb dX10_clear_0 rfl (lv_at hl 1 rfl) ?_
  refine lv_iconst (v := 1) hx hb dX10_clear_1 (by decide) ?_
  refine lv_bipush (v := 7) hx hb dX10_clear_2 (by decide) ?_
  obtain ⟨r_1, hf_2, h⟩ := bd_ok h
  refine ck_Si (rest := []) (wn := [(q_t, .inr (9, [.ref q_t_z, .ref q_t_old, .ref q_t_past, .int t_states, .ref q_t_kept, .int t_isKept, .ref q_t_text, .int t_length, .ref q_t_order, .ref q_t_told, .int t_spot, .int t_toldRows, .ref q_t_rowsTaken, .ref q_t_columnsTaken, .ref q_t_ways, .ref q_t_scaled, .ref q_t_rowFactors, .ref q_t_columnFactors, .ref q_t_rest, .ref q_t_diagonals, .ref q_t_weights])), (q_t_z, .inl (G.2 0, 50, .inl t_z)), (q_t_past, .inl (G.2 0, 200, .inl t_past))]) ⟨hx, hb, hml, hown, hts⟩ hK hP hD hS hA [] [0, 1, 2] [0, 1, 2] (c_X10_in l G _ a1 (1 : Int32) (7 : Int32) _ hf_2) (cwS 3 hts gX10_clear_X10_in rfl rfl rfl (by decide +kernel) ⟨Nat.le_of_ble_eq_true rfl, Nat.le_of_ble_eq_true rfl⟩) rfl rfl rfl rfl (by decide) rfl rfl rfl hl.1 rfl (Nat.le_of_ble_eq_true rfl) dX10_clear_4 ⟨Nat.zero_le _, Nat.zero_le _⟩ (fun H locs hP hD hS => ?_)
  refine lv_if_ne (tgt := 13) hx hb dX10_clear_7 (by decide) (fun c_3 => ?_) (fun c_3 => ?_)
  · replace h := it_f h c_3
    refine lv_aload_n hx hb dX10_clear_13 rfl (lv_at hl 0 rfl) ?_
    obtain ⟨⟨t_states_4, t_past_5⟩, hf_6, h⟩ := bd_ok h
    refine ck_Vv (rest := []) (wn := [(q_t, .inr (9, [.ref q_t_z, .ref q_t_old, .ref q_t_past, .int t_states_4, .ref q_t_kept, .int t_isKept, .ref q_t_text, .int t_length, .ref q_t_order, .ref q_t_told, .int t_spot, .int t_toldRows, .ref q_t_rowsTaken, .ref q_t_columnsTaken, .ref q_t_ways, .ref q_t_scaled, .ref q_t_rowFactors, .ref q_t_columnFactors, .ref q_t_rest, .ref q_t_diagonals, .ref q_t_weights])), (q_t_z, .inl (G.2 0, 50, .inl t_z)), (q_t_past, .inl (G.2 0, 200, .inl t_past_5))]) ⟨hx, hb, hml, hown, hts⟩ hK hP hD hS hA [0, 1, 2] [] [0, 1, 2] (c_X10_record l G q_t q_t_z q_t_old q_t_past q_t_kept q_t_text q_t_order q_t_told q_t_rowsTaken q_t_columnsTaken q_t_ways q_t_scaled q_t_rowFactors q_t_columnFactors q_t_rest q_t_diagonals q_t_weights _ t_states t_isKept t_length t_spot t_toldRows t_z t_past _ _ hf_6) (cwV 0 hts gX10_clear_X10_record rfl rfl rfl (by decide +kernel) ⟨Nat.le_of_ble_eq_true rfl, Nat.le_of_ble_eq_true rfl⟩) rfl rfl rfl rfl rfl rfl (by decide) rfl rfl rfl hl.1 rfl (Nat.le_of_ble_eq_true rfl) dX10_clear_14 ⟨Nat.zero_le _, Nat.zero_le _⟩ (fun H locs hP hD hS => ?_)
    refine lv_aload_n hx hb dX10_clear_17 rfl (lv_at hl 0 rfl) ?_
    refine va_get (D := G.1) (ci := 9) (v := .ref q_t_z) (C := RX10) (T := TX10) (N := 21) hx hb hts wi_X10_clear_X10 hown hK hP 0 rfl rfl 0 (by decide) (hts _ wd_X10_clear_2) (fun _ h9 => h9) rfl dX10_clear_18 ?_
    refine lv_bipush (v := 49) hx hb dX10_clear_21 (by decide) ?_
    obtain ⟨g_7, h⟩ := gd_ok h
    refine va_iald (D := G.1) hx hb hK hP 1 0 rfl rfl g_7 dX10_clear_23 ?_
    refine lv_topi (fun x2_8 ex2_8 => ?_)
    replace h := pl_v h ex2_8
    refine lv_istore_n (lv' := [(2, .int x2_8), (0, .ref q_t), (1, .int a1)]) hx hb dX10_clear_24 rfl hl (by decide) rfl (fun ls hl => ?_)
    refine lv_aload_n hx hb dX10_clear_25 rfl (lv_at hl 1 rfl) ?_
    refine lv_iload_n hx hb dX10_clear_26 rfl (lv_at hl 2 rfl) ?_
    obtain ⟨t_z_9, hf_10, h⟩ := bd_ok h
    refine ck_Vv (rest := []) (wn := [(q_t, .inr (9, [.ref q_t_z, .ref q_t_old, .ref q_t_past, .int t_states_4, .ref q_t_kept, .int t_isKept, .ref q_t_text, .int t_length, .ref q_t_order, .ref q_t_told, .int t_spot, .int t_toldRows, .ref q_t_rowsTaken, .ref q_t_columnsTaken, .ref q_t_ways, .ref q_t_scaled, .ref q_t_rowFactors, .ref q_t_columnFactors, .ref q_t_rest, .ref q_t_diagonals, .ref q_t_weights])), (q_t_z, .inl (G.2 0, 50, .inl t_z_9)), (q_t_past, .inl (G.2 0, 200, .inl t_past_5))]) ⟨hx, hb, hml, hown, hts⟩ hK hP hD hS hA [0, 1] [2] [1, 2, 0] (c_X10_clearAll l G q_t q_t_z q_t_old q_t_past q_t_kept q_t_text q_t_order q_t_told q_t_rowsTaken q_t_columnsTaken q_t_ways q_t_scaled q_t_rowFactors q_t_columnFactors q_t_rest q_t_diagonals q_t_weights _ t_states_4 t_isKept t_length t_spot t_toldRows t_z a1 _ hf_10) (cwV 1 hts gX10_clear_X10_clearAll rfl rfl rfl (by decide +kernel) ⟨Nat.le_of_ble_eq_true rfl, Nat.le_of_ble_eq_true rfl⟩) rfl rfl rfl rfl rfl rfl (by decide) rfl rfl rfl hl.1 rfl (Nat.le_of_ble_eq_true rfl) dX10_clear_27 ⟨Nat.zero_le _, Nat.zero_le _⟩ (fun H locs hP hD hS => ?_)
    refine lv_iload_n hx hb dX10_clear_30 rfl (lv_at hl 0 rfl) ?_
    obtain ⟨rfl, rfl, rfl, rfl⟩ := sm4 h
    exact KR H locs ls 31 dX10_clear_31 hP hD hS
  · replace h := it_t h c_3
    refine lv_ldc (v := -2000000002) hx hb hown (hts _ wd_X10_clear_1) dX10_clear_10 ?_
    obtain ⟨rfl, rfl, rfl, rfl⟩ := sm4 h
    exact KR H locs ls 12 dX10_clear_12 hP hD hS
set_option maxHeartbeats 4000000 in
set_option maxRecDepth 100000 in
theorem c_X10_clear (l : Launch) (G : GT) (q_t q_t_z q_t_old q_t_past q_t_kept q_t_text q_t_order q_t_told q_t_rowsTaken q_t_columnsTaken q_t_ways q_t_scaled q_t_rowFactors q_t_columnFactors q_t_rest q_t_diagonals q_t_weights : Nat) (sz : Nat) (t_states : Int32) (t_isKept : Int32) (t_length : Int32) (t_spot : Int32) (t_toldRows : Int32) (t_z : Nat → Int32) (t_past : Nat → Int32) (a1 : Int32) (r : Int32) (o_t_states : Int32) (o_t_z : Nat → Int32) (o_t_past : Nat → Int32) (h : f_X10_clear t_states t_z t_past a1 = some (r, o_t_states, o_t_z, o_t_past)) : Met l yX10_clear wsX10_clear ({ frames := 3, cells := 0, slots := 0, locals := 66 } : Room) (va_Pc [.ref q_t, .int a1] (pcW G [(q_t, .inr (9, [.ref q_t_z, .ref q_t_old, .ref q_t_past, .int t_states, .ref q_t_kept, .int t_isKept, .ref q_t_text, .int t_length, .ref q_t_order, .ref q_t_told, .int t_spot, .int t_toldRows, .ref q_t_rowsTaken, .ref q_t_columnsTaken, .ref q_t_ways, .ref q_t_scaled, .ref q_t_rowFactors, .ref q_t_columnFactors, .ref q_t_rest, .ref q_t_diagonals, .ref q_t_weights])), (q_t_z, .inl (G.2 0, 50, .inl t_z)), (q_t_past, .inl (G.2 0, 200, .inl t_past))] sz)) (va_Qi (fun r9 (_ : Unit) => r9 = r) (fun _ t => atW G (va_A [(q_t, .inr (9, [.ref q_t_z, .ref q_t_old, .ref q_t_past, .int t_states, .ref q_t_kept, .int t_isKept, .ref q_t_text, .int t_length, .ref q_t_order, .ref q_t_told, .int t_spot, .int t_toldRows, .ref q_t_rowsTaken, .ref q_t_columnsTaken, .ref q_t_ways, .ref q_t_scaled, .ref q_t_rowFactors, .ref q_t_columnFactors, .ref q_t_rest, .ref q_t_diagonals, .ref q_t_weights])), (q_t_z, .inl (G.2 0, 50, .inl t_z)), (q_t_past, .inl (G.2 0, 200, .inl t_past))] sz) [(q_t, .inr (9, [.ref q_t_z, .ref q_t_old, .ref q_t_past, .int o_t_states, .ref q_t_kept, .int t_isKept, .ref q_t_text, .int t_length, .ref q_t_order, .ref q_t_told, .int t_spot, .int t_toldRows, .ref q_t_rowsTaken, .ref q_t_columnsTaken, .ref q_t_ways, .ref q_t_scaled, .ref q_t_rowFactors, .ref q_t_columnFactors, .ref q_t_rest, .ref q_t_diagonals, .ref q_t_weights])), (q_t_z, .inl (G.2 0, 50, .inl o_t_z)), (q_t_past, .inl (G.2 0, 200, .inl o_t_past))] t) (va_A [(q_t, .inr (9, [.ref q_t_z, .ref q_t_old, .ref q_t_past, .int t_states, .ref q_t_kept, .int t_isKept, .ref q_t_text, .int t_length, .ref q_t_order, .ref q_t_told, .int t_spot, .int t_toldRows, .ref q_t_rowsTaken, .ref q_t_columnsTaken, .ref q_t_ways, .ref q_t_scaled, .ref q_t_rowFactors, .ref q_t_columnFactors, .ref q_t_rest, .ref q_t_diagonals, .ref q_t_weights])), (q_t_z, .inl (G.2 0, 50, .inl t_z)), (q_t_past, .inl (G.2 0, 200, .inl t_past))] sz)) 0 0 (va_A [(q_t, .inr (9, [.ref q_t_z, .ref q_t_old, .ref q_t_past, .int t_states, .ref q_t_kept, .int t_isKept, .ref q_t_text, .int t_length, .ref q_t_order, .ref q_t_told, .int t_spot, .int t_toldRows, .ref q_t_rowsTaken, .ref q_t_columnsTaken, .ref q_t_ways, .ref q_t_scaled, .ref q_t_rowFactors, .ref q_t_columnFactors, .ref q_t_rest, .ref q_t_diagonals, .ref q_t_weights])), (q_t_z, .inl (G.2 0, 50, .inl t_z)), (q_t_past, .inl (G.2 0, 200, .inl t_past))] sz) := by
  refine Met.ofW (cc := cX10_clear) (maxL := 3) (ret := (some .int)) (by decide) rfl ?_
  intro p e s m args below meth c s₁ B hml hv
  obtain ⟨rfl, hsz, hP, hK, hD0⟩ := hv
  subst hsz
  have hD := hD0.self (sz := s.heap.size)
  generalize hAe : va_A [(q_t, .inr (9, [.ref q_t_z, .ref q_t_old, .ref q_t_past, .int t_states, .ref q_t_kept, .int t_isKept, .ref q_t_text, .int t_length, .ref q_t_order, .ref q_t_told, .int t_spot, .int t_toldRows, .ref q_t_rowsTaken, .ref q_t_columnsTaken, .ref q_t_ways, .ref q_t_scaled, .ref q_t_rowFactors, .ref q_t_columnFactors, .ref q_t_rest, .ref q_t_diagonals, .ref q_t_weights])), (q_t_z, .inl (G.2 0, 50, .inl t_z)), (q_t_past, .inl (G.2 0, 200, .inl t_past))] s.heap.size = A at hD ⊢
  have hA : ∀ q : Nat, s.heap.size ≤ q → A q := fun q h => by rw [← hAe]; exact Or.inr h
  have hl := lv_entry ([.ref q_t, .int a1]) (n := 3) (Nat.le_of_ble_eq_true rfl)
  rw [lg_entry_eq]
  refine k_X10_clear ⟨B.exec, B.bytes, hml, findClass_of_methodNamed B.named, atoms_spec (ws := wsX10_clear) B.pre⟩ G hK hA q_t q_t_z q_t_old q_t_past q_t_kept q_t_text q_t_order q_t_told q_t_rowsTaken q_t_columnsTaken q_t_ways q_t_scaled q_t_rowFactors q_t_columnFactors q_t_rest q_t_diagonals q_t_weights _ _ _ _ _ _ _ _ _ _ _ _ h ?_ _ _ _ hP hD va_S.rf hl
  intro H locs ls pc hd hP hD hS
  exact W.iret B.exec B.bytes B.returns (fun t ht hW => ⟨⟨r, (), rfl, rfl, by rw [ht]; exact hP, hD⟩, hS.F ht⟩) hS.2.2 hd B.notSynchronized
set_option maxRecDepth 20000 in
theorem wd_X10_set_1 : Cond.constant RX10 92 (-2000000001) ∈ wsX10_set := List.mem_of_getElem? (i := 1) (by decide +kernel)
set_option maxRecDepth 20000 in
theorem wd_X10_set_4 : Cond.fieldLink RX10 7 "PermanentDeskModel" "z" "[I" ∈ wsX10_set := List.mem_of_getElem? (i := 4) (by decide +kernel)
set_option maxRecDepth 20000 in
theorem wi_X10_set_X10 : ∀ w ∈ u_ws RX10 TX10 21, w ∈ wsX10_set := by decide +kernel
set_option maxRecDepth 20000 in
theorem wd_X10_set_3 : Cond.constant RX10 75 (-2000000005) ∈ wsX10_set := List.mem_of_getElem? (i := 3) (by decide +kernel)
set_option maxRecDepth 20000 in
theorem wd_X10_set_2 : Cond.constant RX10 83 (-2000000002) ∈ wsX10_set := List.mem_of_getElem? (i := 2) (by decide +kernel)
def f_X10_set (t_states : Int32) (t_z : Nat → Int32) (t_past : Nat → Int32) (a1 : Int32) (a2 : Int32) (a3 : Int32) : Option (Int32 × Int32 × (Nat → Int32) × (Nat → Int32)) :=
  (f_X10_isLine t_z a1).bind (fun r_1 =>
  if r_1 = 0 then
    some ((-2000000001 : Int32), t_states, t_z, t_past)
  else
    (f_X10_isLine t_z a2).bind (fun r_4 =>
    if r_4 = 0 then
      some ((-2000000001 : Int32), t_states, t_z, t_past)
    else
      (f_X10_in a3 (-20 : Int32) (20 : Int32)).bind (fun r_7 =>
      if r_7 = 0 then
        some ((-2000000002 : Int32), t_states, t_z, t_past)
      else
        (f_X10_at t_z a1 a2).bind (fun r_10 =>
        if r_10 = a3 then
          some ((-2000000005 : Int32), t_states, t_z, t_past)
        else
          (f_X10_record t_states t_z t_past).bind (fun (t_states_13, t_past_14) =>
          gd (okI (((7 : Int32) * a1) + a2) 50) (
          pl ((upd t_z (((7 : Int32) * a1) + a2).toNatClampNeg a3) : Nat → Int32) (fun t_z_17 =>
          some (r_10, t_states_13, t_z_17, t_past_14))))))))
set_option maxHeartbeats 4000000 in
set_option maxRecDepth 100000 in
theorem k_X10_set {p : Program} {l : Launch} {e : Env} {s : State} {m : MethodId} {args : Array Value} {below : List Frame} {meth : Method} {c : Code} {Q : State → Prop} {A0 : Nat → Prop} {H0 : Heap} (C : CallFix p m c cX10_set 5 s args wsX10_set RX10) (G : GT) (hK : gK G s) (hA : ∀ q : Nat, H0.size ≤ q → A0 q) (q_t q_t_z q_t_old q_t_past q_t_kept q_t_text q_t_order q_t_told q_t_rowsTaken q_t_columnsTaken q_t_ways q_t_scaled q_t_rowFactors q_t_columnFactors q_t_rest q_t_diagonals q_t_weights : Nat) (t_states : Int32) (t_isKept : Int32) (t_length : Int32) (t_spot : Int32) (t_toldRows : Int32) (t_z : Nat → Int32) (t_past : Nat → Int32) (a1 : Int32) (a2 : Int32) (a3 : Int32) (r : Int32) (o_t_states : Int32) (o_t_z : Nat → Int32) (o_t_past : Nat → Int32) (h : f_X10_set t_states t_z t_past a1 a2 a3 = some (r, o_t_states, o_t_z, o_t_past)) (KR : ∀ (H : Heap) (locs : List Loc) (ls : Array Slot) (pc : Nat), decode cX10_set pc = .ok (.ireturn, 1) → va_P G.1 vwCl [(q_t, .inr (9, [.ref q_t_z, .ref q_t_old, .ref q_t_past, .int o_t_states, .ref q_t_kept, .int t_isKept, .ref q_t_text, .int t_length, .ref q_t_order, .ref q_t_told, .int t_spot, .int t_toldRows, .ref q_t_rowsTaken, .ref q_t_columnsTaken, .ref q_t_ways, .ref q_t_scaled, .ref q_t_rowFactors, .ref q_t_columnFactors, .ref q_t_rest, .ref q_t_diagonals, .ref q_t_weights])), (q_t_z, .inl (G.2 0, 50, .inl o_t_z)), (q_t_past, .inl (G.2 0, 200, .inl o_t_past))] H → va_D A0 [(q_t, .inr (9, [.ref q_t_z, .ref q_t_old, .ref q_t_past, .int o_t_states, .ref q_t_kept, .int t_isKept, .ref q_t_text, .int t_length, .ref q_t_order, .ref q_t_told, .int t_spot, .int t_toldRows, .ref q_t_rowsTaken, .ref q_t_columnsTaken, .ref q_t_ways, .ref q_t_scaled, .ref q_t_rowFactors, .ref q_t_columnFactors, .ref q_t_rest, .ref q_t_diagonals, .ref q_t_weights])), (q_t_z, .inl (G.2 0, 50, .inl o_t_z)), (q_t_past, .inl (G.2 0, 200, .inl o_t_past))] → va_S A0 H0 H locs → W p l e ({ frames := 3, cells := 0, slots := 0, locals := 66 } : Room) s m args below meth c H locs 0 0 Q (F0 m pc ls [.int r])) : ∀ (H : Heap) (locs : List Loc) (ls : Array Slot), va_P G.1 vwCl [(q_t, .inr (9, [.ref q_t_z, .ref q_t_old, .ref q_t_past, .int t_states, .ref q_t_kept, .int t_isKept, .ref q_t_text, .int t_length, .ref q_t_order, .ref q_t_told, .int t_spot, .int t_toldRows, .ref q_t_rowsTaken, .ref q_t_columnsTaken, .ref q_t_ways, .ref q_t_scaled, .ref q_t_rowFactors, .ref q_t_columnFactors, .ref q_t_rest, .ref q_t_diagonals, .ref q_t_weights])), (q_t_z, .inl (G.2 0, 50, .inl t_z)), (q_t_past, .inl (G.2 0, 200, .inl t_past))] H → va_D A0 [(q_t, .inr (9, [.ref q_t_z, .ref q_t_old, .ref q_t_past, .int t_states, .ref q_t_kept, .int t_isKept, .ref q_t_text, .int t_length, .ref q_t_order, .ref q_t_told, .int t_spot, .int t_toldRows, .ref q_t_rowsTaken, .ref q_t_columnsTaken, .ref q_t_ways, .ref q_t_scaled, .ref q_t_rowFactors, .ref q_t_columnFactors, .ref q_t_rest, .ref q_t_diagonals, .ref q_t_weights])), (q_t_z, .inl (G.2 0, 50, .inl t_z)), (q_t_past, .inl (G.2 0, 200, .inl t_past))] → va_S A0 H0 H locs → lv_has ls 5 [(0, .ref q_t), (1, .int a1), (2, .int a2), (3, .int a3)] → W p l e ({ frames := 3, cells := 0, slots := 0, locals := 66 } : Room) s m args below meth c H locs 0 0 Q (F0 m 0 ls []) := by
  obtain ⟨hx, hb, hml, hown, hts⟩ := C
  intro H locs ls hP hD hS hl
  rw [f_X10_set] at h
  refine lv_aload_n hx hb dX10_set_0 rfl (lv_at hl 0 rfl) ?_
  refine lv_iload_n hx hb dX10_set_1 rfl (lv_at hl 1 rfl) ?_
  obtain ⟨r_1, hf_2, h⟩ := bd_ok h
  refine ck_Vi (rest := []) (wn := [(q_t, .inr (9, [.ref q_t_z, .ref q_t_old, .ref q_t_past, .int t_states, .ref q_t_kept, .int t_isKept, .ref q_t_text, .int t_length, .ref q_t_order, .ref q_t_told, .int t_spot, .int t_toldRows, .ref q_t_rowsTaken, .ref q_t_columnsTaken, .ref q_t_ways, .ref q_t_scaled, .ref q_t_rowFactors, .ref q_t_columnFactors, .ref q_t_rest, .ref q_t_diagonals, .ref q_t_weights])), (q_t_z, .inl (G.2 0, 50, .inl t_z)), (q_t_past, .inl (G.2 0, 200, .inl t_past))]) ⟨hx, hb, hml, hown, hts⟩ hK hP hD hS hA [0, 1] [2] [1, 2, 0] (c_X10_isLine l G q_t q_t_z q_t_old q_t_past q_t_kept q_t_text q_t_order q_t_told q_t_rowsTaken q_t_columnsTaken q_t_ways q_t_scaled q_t_rowFactors q_t_columnFactors q_t_rest q_t_diagonals q_t_weights _ t_states t_isKept t_length t_spot t_toldRows t_z a1 _ hf_2) (cwV 1 hts gX10_set_X10_isLine rfl rfl rfl (by decide +kernel) ⟨Nat.le_of_ble_eq_true rfl, Nat.le_of_ble_eq_true rfl⟩) rfl rfl rfl rfl rfl rfl (by decide) rfl rfl rfl hl.1 rfl (Nat.le_of_ble_eq_true rfl) dX10_set_2 ⟨Nat.zero_le _, Nat.zero_le _⟩ (fun H locs hP hD hS => ?_)
  refine lv_if_eq (tgt := 16) hx hb dX10_set_5 (by decide) (fun c_3 => ?_) (fun c_3 => ?_)
  · replace h := it_t h c_3
    refine lv_ldc (v := -2000000001) hx hb hown (hts _ wd_X10_set_1) dX10_set_16 ?_
    obtain ⟨rfl, rfl, rfl, rfl⟩ := sm4 h
    exact KR H locs ls 18 dX10_set_18 hP hD hS
  · replace h := it_f h c_3
    refine lv_aload_n hx hb dX10_set_8 rfl (lv_at hl 0 rfl) ?_
    refine lv_iload_n hx hb dX10_set_9 rfl (lv_at hl 2 rfl) ?_
    obtain ⟨r_4, hf_5, h⟩ := bd_ok h
    refine ck_Vi (rest := []) (wn := [(q_t, .inr (9, [.ref q_t_z, .ref q_t_old, .ref q_t_past, .int t_states, .ref q_t_kept, .int t_isKept, .ref q_t_text, .int t_length, .ref q_t_order, .ref q_t_told, .int t_spot, .int t_toldRows, .ref q_t_rowsTaken, .ref q_t_columnsTaken, .ref q_t_ways, .ref q_t_scaled, .ref q_t_rowFactors, .ref q_t_columnFactors, .ref q_t_rest, .ref q_t_diagonals, .ref q_t_weights])), (q_t_z, .inl (G.2 0, 50, .inl t_z)), (q_t_past, .inl (G.2 0, 200, .inl t_past))]) ⟨hx, hb, hml, hown, hts⟩ hK hP hD hS hA [0, 1] [2] [1, 2, 0] (c_X10_isLine l G q_t q_t_z q_t_old q_t_past q_t_kept q_t_text q_t_order q_t_told q_t_rowsTaken q_t_columnsTaken q_t_ways q_t_scaled q_t_rowFactors q_t_columnFactors q_t_rest q_t_diagonals q_t_weights _ t_states t_isKept t_length t_spot t_toldRows t_z a2 _ hf_5) (cwV 1 hts gX10_set_X10_isLine rfl rfl rfl (by decide +kernel) ⟨Nat.le_of_ble_eq_true rfl, Nat.le_of_ble_eq_true rfl⟩) rfl rfl rfl rfl rfl rfl (by decide) rfl rfl rfl hl.1 rfl (Nat.le_of_ble_eq_true rfl) dX10_set_10 ⟨Nat.zero_le _, Nat.zero_le _⟩ (fun H locs hP hD hS => ?_)
    refine lv_if_ne (tgt := 19) hx hb dX10_set_13 (by decide) (fun c_6 => ?_) (fun c_6 => ?_)
    · replace h := it_f h c_6
      refine lv_iload_n hx hb dX10_set_19 rfl (lv_at hl 3 rfl) ?_
      refine lv_bipush (v := -20) hx hb dX10_set_20 (by decide) ?_
      refine lv_bipush (v := 20) hx hb dX10_set_22 (by decide) ?_
      obtain ⟨r_7, hf_8, h⟩ := bd_ok h
      refine ck_Si (rest := []) (wn := [(q_t, .inr (9, [.ref q_t_z, .ref q_t_old, .ref q_t_past, .int t_states, .ref q_t_kept, .int t_isKept, .ref q_t_text, .int t_length, .ref q_t_order, .ref q_t_told, .int t_spot, .int t_toldRows, .ref q_t_rowsTaken, .ref q_t_columnsTaken, .ref q_t_ways, .ref q_t_scaled, .ref q_t_rowFactors, .ref q_t_columnFactors, .ref q_t_rest, .ref q_t_diagonals, .ref q_t_weights])), (q_t_z, .inl (G.2 0, 50, .inl t_z)), (q_t_past, .inl (G.2 0, 200, .inl t_past))]) ⟨hx, hb, hml, hown, hts⟩ hK hP hD hS hA [] [0, 1, 2] [0, 1, 2] (c_X10_in l G _ a3 (-20 : Int32) (20 : Int32) _ hf_8) (cwS 3 hts gX10_set_X10_in rfl rfl rfl (by decide +kernel) ⟨Nat.le_of_ble_eq_true rfl, Nat.le_of_ble_eq_true rfl⟩) rfl rfl rfl rfl (by decide) rfl rfl rfl hl.1 rfl (Nat.le_of_ble_eq_true rfl) dX10_set_24 ⟨Nat.zero_le _, Nat.zero_le _⟩ (fun H locs hP hD hS => ?_)
      refine lv_if_ne (tgt := 33) hx hb dX10_set_27 (by decide) (fun c_9 => ?_) (fun c_9 => ?_)
      · replace h := it_f h c_9
        refine lv_aload_n hx hb dX10_set_33 rfl (lv_at hl 0 rfl) ?_
        refine lv_iload_n hx hb dX10_set_34 rfl (lv_at hl 1 rfl) ?_
        refine lv_iload_n hx hb dX10_set_35 rfl (lv_at hl 2 rfl) ?_
        obtain ⟨r_10, hf_11, h⟩ := bd_ok h
        refine ck_Vi (rest := []) (wn := [(q_t, .inr (9, [.ref q_t_z, .ref q_t_old, .ref q_t_past, .int t_states, .ref q_t_kept, .int t_isKept, .ref q_t_text, .int t_length, .ref q_t_order, .ref q_t_told, .int t_spot, .int t_toldRows, .ref q_t_rowsTaken, .ref q_t_columnsTaken, .ref q_t_ways, .ref q_t_scaled, .ref q_t_rowFactors, .ref q_t_columnFactors, .ref q_t_rest, .ref q_t_diagonals, .ref q_t_weights])), (q_t_z, .inl (G.2 0, 50, .inl t_z)), (q_t_past, .inl (G.2 0, 200, .inl t_past))]) ⟨hx, hb, hml, hown, hts⟩ hK hP hD hS hA [0, 1] [2] [1, 2, 0] (c_X10_at l G q_t q_t_z q_t_old q_t_past q_t_kept q_t_text q_t_order q_t_told q_t_rowsTaken q_t_columnsTaken q_t_ways q_t_scaled q_t_rowFactors q_t_columnFactors q_t_rest q_t_diagonals q_t_weights _ t_states t_isKept t_length t_spot t_toldRows t_z a1 a2 _ hf_11) (cwV 2 hts gX10_set_X10_at rfl rfl rfl (by decide +kernel) ⟨Nat.le_of_ble_eq_true rfl, Nat.le_of_ble_eq_true rfl⟩) rfl rfl rfl rfl rfl rfl (by decide) rfl rfl rfl hl.1 rfl (Nat.le_of_ble_eq_true rfl) dX10_set_36 ⟨Nat.zero_le _, Nat.zero_le _⟩ (fun H locs hP hD hS => ?_)
        refine lv_istore (lv' := [(4, .int r_10), (0, .ref q_t), (1, .int a1), (2, .int a2), (3, .int a3)]) hx hb dX10_set_39 hl (by decide) rfl (fun ls hl => ?_)
        refine lv_iload hx hb dX10_set_41 (lv_at hl 0 rfl) ?_
        refine lv_iload_n hx hb dX10_set_43 rfl (lv_at hl 4 rfl) ?_
        refine lv_icmp_ne (tgt := 50) hx hb dX10_set_44 (by decide) (fun c_12 => ?_) (fun c_12 => ?_)
        · replace h := it_f h c_12
          refine lv_aload_n hx hb dX10_set_50 rfl (lv_at hl 1 rfl) ?_
          obtain ⟨⟨t_states_13, t_past_14⟩, hf_15, h⟩ := bd_ok h
          refine ck_Vv (rest := []) (wn := [(q_t, .inr (9, [.ref q_t_z, .ref q_t_old, .ref q_t_past, .int t_states_13, .ref q_t_kept, .int t_isKept, .ref q_t_text, .int t_length, .ref q_t_order, .ref q_t_told, .int t_spot, .int t_toldRows, .ref q_t_rowsTaken, .ref q_t_columnsTaken, .ref q_t_ways, .ref q_t_scaled, .ref q_t_rowFactors, .ref q_t_columnFactors, .ref q_t_rest, .ref q_t_diagonals, .ref q_t_weights])), (q_t_z, .inl (G.2 0, 50, .inl t_z)), (q_t_past, .inl (G.2 0, 200, .inl t_past_14))]) ⟨hx, hb, hml, hown, hts⟩ hK hP hD hS hA [0, 1, 2] [] [0, 1, 2] (c_X10_record l G q_t q_t_z q_t_old q_t_past q_t_kept q_t_text q_t_order q_t_told q_t_rowsTaken q_t_columnsTaken q_t_ways q_t_scaled q_t_rowFactors q_t_columnFactors q_t_rest q_t_diagonals q_t_weights _ t_states t_isKept t_length t_spot t_toldRows t_z t_past _ _ hf_15) (cwV 0 hts gX10_set_X10_record rfl rfl rfl (by decide +kernel) ⟨Nat.le_of_ble_eq_true rfl, Nat.le_of_ble_eq_true rfl⟩) rfl rfl rfl rfl rfl rfl (by decide) rfl rfl rfl hl.1 rfl (Nat.le_of_ble_eq_true rfl) dX10_set_51 ⟨Nat.zero_le _, Nat.zero_le _⟩ (fun H locs hP hD hS => ?_)
          refine lv_aload_n hx hb dX10_set_54 rfl (lv_at hl 1 rfl) ?_
          refine va_get (D := G.1) (ci := 9) (v := .ref q_t_z) (C := RX10) (T := TX10) (N := 21) hx hb hts wi_X10_set_X10 hown hK hP 0 rfl rfl 0 (by decide) (hts _ wd_X10_set_4) (fun _ h9 => h9) rfl dX10_set_55 ?_
          refine lv_bipush (v := 7) hx hb dX10_set_58 (by decide) ?_
          refine lv_iload_n hx hb dX10_set_60 rfl (lv_at hl 2 rfl) ?_
          refine lv_imul hx hb dX10_set_61 ?_
          refine lv_iload_n hx hb dX10_set_62 rfl (lv_at hl 3 rfl) ?_
          refine lv_iadd hx hb dX10_set_63 ?_
          refine lv_iload_n hx hb dX10_set_64 rfl (lv_at hl 4 rfl) ?_
          obtain ⟨g_16, h⟩ := gd_ok h
          obtain ⟨t_z_17, et_z_17, h⟩ := pl_ok h
          refine st_i (D := G.1) (wn := [(q_t, .inr (9, [.ref q_t_z, .ref q_t_old, .ref q_t_past, .int t_states_13, .ref q_t_kept, .int t_isKept, .ref q_t_text, .int t_length, .ref q_t_order, .ref q_t_told, .int t_spot, .int t_toldRows, .ref q_t_rowsTaken, .ref q_t_columnsTaken, .ref q_t_ways, .ref q_t_scaled, .ref q_t_rowFactors, .ref q_t_columnFactors, .ref q_t_rest, .ref q_t_diagonals, .ref q_t_weights])), (q_t_z, .inl (G.2 0, 50, .inl t_z_17)), (q_t_past, .inl (G.2 0, 200, .inl t_past_14))]) hx hb hK hP hD hS 1 0 rfl rfl g_16 dX10_set_65 et_z_17 rfl (fun H locs hP hD hS => ?_)
          refine lv_iload hx hb dX10_set_66 (lv_at hl 0 rfl) ?_
          obtain ⟨rfl, rfl, rfl, rfl⟩ := sm4 h
          exact KR H locs ls 68 dX10_set_68 hP hD hS
        · replace h := it_t h c_12
          refine lv_ldc (v := -2000000005) hx hb hown (hts _ wd_X10_set_3) dX10_set_47 ?_
          obtain ⟨rfl, rfl, rfl, rfl⟩ := sm4 h
          exact KR H locs ls 49 dX10_set_49 hP hD hS
      · replace h := it_t h c_9
        refine lv_ldc (v := -2000000002) hx hb hown (hts _ wd_X10_set_2) dX10_set_30 ?_
        obtain ⟨rfl, rfl, rfl, rfl⟩ := sm4 h
        exact KR H locs ls 32 dX10_set_32 hP hD hS
    · replace h := it_t h c_6
      refine lv_ldc (v := -2000000001) hx hb hown (hts _ wd_X10_set_1) dX10_set_16 ?_
      obtain ⟨rfl, rfl, rfl, rfl⟩ := sm4 h
      exact KR H locs ls 18 dX10_set_18 hP hD hS
set_option maxHeartbeats 4000000 in
set_option maxRecDepth 100000 in
theorem c_X10_set (l : Launch) (G : GT) (q_t q_t_z q_t_old q_t_past q_t_kept q_t_text q_t_order q_t_told q_t_rowsTaken q_t_columnsTaken q_t_ways q_t_scaled q_t_rowFactors q_t_columnFactors q_t_rest q_t_diagonals q_t_weights : Nat) (sz : Nat) (t_states : Int32) (t_isKept : Int32) (t_length : Int32) (t_spot : Int32) (t_toldRows : Int32) (t_z : Nat → Int32) (t_past : Nat → Int32) (a1 : Int32) (a2 : Int32) (a3 : Int32) (r : Int32) (o_t_states : Int32) (o_t_z : Nat → Int32) (o_t_past : Nat → Int32) (h : f_X10_set t_states t_z t_past a1 a2 a3 = some (r, o_t_states, o_t_z, o_t_past)) : Met l yX10_set wsX10_set ({ frames := 3, cells := 0, slots := 0, locals := 66 } : Room) (va_Pc [.ref q_t, .int a1, .int a2, .int a3] (pcW G [(q_t, .inr (9, [.ref q_t_z, .ref q_t_old, .ref q_t_past, .int t_states, .ref q_t_kept, .int t_isKept, .ref q_t_text, .int t_length, .ref q_t_order, .ref q_t_told, .int t_spot, .int t_toldRows, .ref q_t_rowsTaken, .ref q_t_columnsTaken, .ref q_t_ways, .ref q_t_scaled, .ref q_t_rowFactors, .ref q_t_columnFactors, .ref q_t_rest, .ref q_t_diagonals, .ref q_t_weights])), (q_t_z, .inl (G.2 0, 50, .inl t_z)), (q_t_past, .inl (G.2 0, 200, .inl t_past))] sz)) (va_Qi (fun r9 (_ : Unit) => r9 = r) (fun _ t => atW G (va_A [(q_t, .inr (9, [.ref q_t_z, .ref q_t_old, .ref q_t_past, .int t_states, .ref q_t_kept, .int t_isKept, .ref q_t_text, .int t_length, .ref q_t_order, .ref q_t_told, .int t_spot, .int t_toldRows, .ref q_t_rowsTaken, .ref q_t_columnsTaken, .ref q_t_ways, .ref q_t_scaled, .ref q_t_rowFactors, .ref q_t_columnFactors, .ref q_t_rest, .ref q_t_diagonals, .ref q_t_weights])), (q_t_z, .inl (G.2 0, 50, .inl t_z)), (q_t_past, .inl (G.2 0, 200, .inl t_past))] sz) [(q_t, .inr (9, [.ref q_t_z, .ref q_t_old, .ref q_t_past, .int o_t_states, .ref q_t_kept, .int t_isKept, .ref q_t_text, .int t_length, .ref q_t_order, .ref q_t_told, .int t_spot, .int t_toldRows, .ref q_t_rowsTaken, .ref q_t_columnsTaken, .ref q_t_ways, .ref q_t_scaled, .ref q_t_rowFactors, .ref q_t_columnFactors, .ref q_t_rest, .ref q_t_diagonals, .ref q_t_weights])), (q_t_z, .inl (G.2 0, 50, .inl o_t_z)), (q_t_past, .inl (G.2 0, 200, .inl o_t_past))] t) (va_A [(q_t, .inr (9, [.ref q_t_z, .ref q_t_old, .ref q_t_past, .int t_states, .ref q_t_kept, .int t_isKept, .ref q_t_text, .int t_length, .ref q_t_order, .ref q_t_told, .int t_spot, .int t_toldRows, .ref q_t_rowsTaken, .ref q_t_columnsTaken, .ref q_t_ways, .ref q_t_scaled, .ref q_t_rowFactors, .ref q_t_columnFactors, .ref q_t_rest, .ref q_t_diagonals, .ref q_t_weights])), (q_t_z, .inl (G.2 0, 50, .inl t_z)), (q_t_past, .inl (G.2 0, 200, .inl t_past))] sz)) 0 0 (va_A [(q_t, .inr (9, [.ref q_t_z, .ref q_t_old, .ref q_t_past, .int t_states, .ref q_t_kept, .int t_isKept, .ref q_t_text, .int t_length, .ref q_t_order, .ref q_t_told, .int t_spot, .int t_toldRows, .ref q_t_rowsTaken, .ref q_t_columnsTaken, .ref q_t_ways, .ref q_t_scaled, .ref q_t_rowFactors, .ref q_t_columnFactors, .ref q_t_rest, .ref q_t_diagonals, .ref q_t_weights])), (q_t_z, .inl (G.2 0, 50, .inl t_z)), (q_t_past, .inl (G.2 0, 200, .inl t_past))] sz) := by
  refine Met.ofW (cc := cX10_set) (maxL := 5) (ret := (some .int)) (by decide) rfl ?_
  intro p e s m args below meth c s₁ B hml hv
  obtain ⟨rfl, hsz, hP, hK, hD0⟩ := hv
  subst hsz
  have hD := hD0.self (sz := s.heap.size)
  generalize hAe : va_A [(q_t, .inr (9, [.ref q_t_z, .ref q_t_old, .ref q_t_past, .int t_states, .ref q_t_kept, .int t_isKept, .ref q_t_text, .int t_length, .ref q_t_order, .ref q_t_told, .int t_spot, .int t_toldRows, .ref q_t_rowsTaken, .ref q_t_columnsTaken, .ref q_t_ways, .ref q_t_scaled, .ref q_t_rowFactors, .ref q_t_columnFactors, .ref q_t_rest, .ref q_t_diagonals, .ref q_t_weights])), (q_t_z, .inl (G.2 0, 50, .inl t_z)), (q_t_past, .inl (G.2 0, 200, .inl t_past))] s.heap.size = A at hD ⊢
  have hA : ∀ q : Nat, s.heap.size ≤ q → A q := fun q h => by rw [← hAe]; exact Or.inr h
  have hl := lv_entry ([.ref q_t, .int a1, .int a2, .int a3]) (n := 5) (Nat.le_of_ble_eq_true rfl)
  rw [lg_entry_eq]
  refine k_X10_set ⟨B.exec, B.bytes, hml, findClass_of_methodNamed B.named, atoms_spec (ws := wsX10_set) B.pre⟩ G hK hA q_t q_t_z q_t_old q_t_past q_t_kept q_t_text q_t_order q_t_told q_t_rowsTaken q_t_columnsTaken q_t_ways q_t_scaled q_t_rowFactors q_t_columnFactors q_t_rest q_t_diagonals q_t_weights _ _ _ _ _ _ _ _ _ _ _ _ _ _ h ?_ _ _ _ hP hD va_S.rf hl
  intro H locs ls pc hd hP hD hS
  exact W.iret B.exec B.bytes B.returns (fun t ht hW => ⟨⟨r, (), rfl, rfl, by rw [ht]; exact hP, hD⟩, hS.F ht⟩) hS.2.2 hd B.notSynchronized
set_option maxRecDepth 20000 in
theorem wd_X10_takeOld_1 : Cond.fieldLink RX10 7 "PermanentDeskModel" "z" "[I" ∈ wsX10_takeOld := List.mem_of_getElem? (i := 1) (by decide +kernel)
set_option maxRecDepth 20000 in
theorem wi_X10_takeOld_X10 : ∀ w ∈ u_ws RX10 TX10 21, w ∈ wsX10_takeOld := by decide +kernel
set_option maxRecDepth 20000 in
theorem wd_X10_takeOld_2 : Cond.fieldLink RX10 13 "PermanentDeskModel" "old" "[I" ∈ wsX10_takeOld := List.mem_of_getElem? (i := 2) (by decide +kernel)
def f_X10_takeOld (t_z : Nat → Int32) (t_old : Nat → Int32) : Option (Nat → Int32) :=
  (f_X10_copyRow 50 50 t_z t_old (0 : Int32) (0 : Int32) (50 : Int32)).bind (fun t_old_1 =>
  some t_old_1)
set_option maxHeartbeats 4000000 in
set_option maxRecDepth 100000 in
theorem k_X10_takeOld {p : Program} {l : Launch} {e : Env} {s : State} {m : MethodId} {args : Array Value} {below : List Frame} {meth : Method} {c : Code} {Q : State → Prop} {A0 : Nat → Prop} {H0 : Heap} (C : CallFix p m c cX10_takeOld 1 s args wsX10_takeOld RX10) (G : GT) (hK : gK G s) (hA : ∀ q : Nat, H0.size ≤ q → A0 q) (q_t q_t_z q_t_old q_t_past q_t_kept q_t_text q_t_order q_t_told q_t_rowsTaken q_t_columnsTaken q_t_ways q_t_scaled q_t_rowFactors q_t_columnFactors q_t_rest q_t_diagonals q_t_weights : Nat) (t_states : Int32) (t_isKept : Int32) (t_length : Int32) (t_spot : Int32) (t_toldRows : Int32) (t_z : Nat → Int32) (t_old : Nat → Int32) (o_t_old : Nat → Int32) (h : f_X10_takeOld t_z t_old = some o_t_old) (KR : ∀ (H : Heap) (locs : List Loc) (ls : Array Slot) (pc : Nat), decode cX10_takeOld pc = .ok (.return_, 1) → va_P G.1 vwCl [(q_t, .inr (9, [.ref q_t_z, .ref q_t_old, .ref q_t_past, .int t_states, .ref q_t_kept, .int t_isKept, .ref q_t_text, .int t_length, .ref q_t_order, .ref q_t_told, .int t_spot, .int t_toldRows, .ref q_t_rowsTaken, .ref q_t_columnsTaken, .ref q_t_ways, .ref q_t_scaled, .ref q_t_rowFactors, .ref q_t_columnFactors, .ref q_t_rest, .ref q_t_diagonals, .ref q_t_weights])), (q_t_z, .inl (G.2 0, 50, .inl t_z)), (q_t_old, .inl (G.2 0, 50, .inl o_t_old))] H → va_D A0 [(q_t, .inr (9, [.ref q_t_z, .ref q_t_old, .ref q_t_past, .int t_states, .ref q_t_kept, .int t_isKept, .ref q_t_text, .int t_length, .ref q_t_order, .ref q_t_told, .int t_spot, .int t_toldRows, .ref q_t_rowsTaken, .ref q_t_columnsTaken, .ref q_t_ways, .ref q_t_scaled, .ref q_t_rowFactors, .ref q_t_columnFactors, .ref q_t_rest, .ref q_t_diagonals, .ref q_t_weights])), (q_t_z, .inl (G.2 0, 50, .inl t_z)), (q_t_old, .inl (G.2 0, 50, .inl o_t_old))] → va_S A0 H0 H locs → W p l e ({ frames := 1, cells := 0, slots := 0, locals := 25 } : Room) s m args below meth c H locs 0 0 Q (F0 m pc ls [])) : ∀ (H : Heap) (locs : List Loc) (ls : Array Slot), va_P G.1 vwCl [(q_t, .inr (9, [.ref q_t_z, .ref q_t_old, .ref q_t_past, .int t_states, .ref q_t_kept, .int t_isKept, .ref q_t_text, .int t_length, .ref q_t_order, .ref q_t_told, .int t_spot, .int t_toldRows, .ref q_t_rowsTaken, .ref q_t_columnsTaken, .ref q_t_ways, .ref q_t_scaled, .ref q_t_rowFactors, .ref q_t_columnFactors, .ref q_t_rest, .ref q_t_diagonals, .ref q_t_weights])), (q_t_z, .inl (G.2 0, 50, .inl t_z)), (q_t_old, .inl (G.2 0, 50, .inl t_old))] H → va_D A0 [(q_t, .inr (9, [.ref q_t_z, .ref q_t_old, .ref q_t_past, .int t_states, .ref q_t_kept, .int t_isKept, .ref q_t_text, .int t_length, .ref q_t_order, .ref q_t_told, .int t_spot, .int t_toldRows, .ref q_t_rowsTaken, .ref q_t_columnsTaken, .ref q_t_ways, .ref q_t_scaled, .ref q_t_rowFactors, .ref q_t_columnFactors, .ref q_t_rest, .ref q_t_diagonals, .ref q_t_weights])), (q_t_z, .inl (G.2 0, 50, .inl t_z)), (q_t_old, .inl (G.2 0, 50, .inl t_old))] → va_S A0 H0 H locs → lv_has ls 1 [(0, .ref q_t)] → W p l e ({ frames := 1, cells := 0, slots := 0, locals := 25 } : Room) s m args below meth c H locs 0 0 Q (F0 m 0 ls []) := by
  obtain ⟨hx, hb, hml, hown, hts⟩ := C
  intro H locs ls hP hD hS hl
  rw [f_X10_takeOld] at h
  refine lv_aload_n hx hb dX10_takeOld_0 rfl (lv_at hl 0 rfl) ?_
  refine va_get (D := G.1) (ci := 9) (v := .ref q_t_z) (C := RX10) (T := TX10) (N := 21) hx hb hts wi_X10_takeOld_X10 hown hK hP 0 rfl rfl 0 (by decide) (hts _ wd_X10_takeOld_1) (fun _ h9 => h9) rfl dX10_takeOld_1 ?_
  refine lv_iconst (v := 0) hx hb dX10_takeOld_4 (by decide) ?_
  refine lv_aload_n hx hb dX10_takeOld_5 rfl (lv_at hl 0 rfl) ?_
  refine va_get (D := G.1) (ci := 9) (v := .ref q_t_old) (C := RX10) (T := TX10) (N := 21) hx hb hts wi_X10_takeOld_X10 hown hK hP 0 rfl rfl 1 (by decide) (hts _ wd_X10_takeOld_2) (fun _ h9 => h9) rfl dX10_takeOld_6 ?_
  refine lv_iconst (v := 0) hx hb dX10_takeOld_9 (by decide) ?_
  refine lv_bipush (v := 50) hx hb dX10_takeOld_10 (by decide) ?_
  obtain ⟨t_old_1, hf_2, h⟩ := bd_ok h
  refine ck_Sv (rest := []) (wn := [(q_t, .inr (9, [.ref q_t_z, .ref q_t_old, .ref q_t_past, .int t_states, .ref q_t_kept, .int t_isKept, .ref q_t_text, .int t_length, .ref q_t_order, .ref q_t_told, .int t_spot, .int t_toldRows, .ref q_t_rowsTaken, .ref q_t_columnsTaken, .ref q_t_ways, .ref q_t_scaled, .ref q_t_rowFactors, .ref q_t_columnFactors, .ref q_t_rest, .ref q_t_diagonals, .ref q_t_weights])), (q_t_z, .inl (G.2 0, 50, .inl t_z)), (q_t_old, .inl (G.2 0, 50, .inl t_old_1))]) ⟨hx, hb, hml, hown, hts⟩ hK hP hD hS hA [1, 2] [0] [0, 1, 2] (c_X10_copyRow l G q_t_z q_t_old _ 50 50 t_z t_old (0 : Int32) (0 : Int32) (50 : Int32) _ hf_2) (cwS 5 hts gX10_takeOld_X10_copyRow rfl rfl rfl (by decide +kernel) ⟨Nat.le_of_ble_eq_true rfl, Nat.le_of_ble_eq_true rfl⟩) rfl rfl rfl rfl (by decide) rfl rfl rfl hl.1 rfl (Nat.le_of_ble_eq_true rfl) dX10_takeOld_12 ⟨Nat.zero_le _, Nat.zero_le _⟩ (fun H locs hP hD hS => ?_)
  obtain rfl := sm1 h
  exact KR H locs ls 15 dX10_takeOld_15 hP hD hS
set_option maxHeartbeats 4000000 in
set_option maxRecDepth 100000 in
theorem c_X10_takeOld (l : Launch) (G : GT) (q_t q_t_z q_t_old q_t_past q_t_kept q_t_text q_t_order q_t_told q_t_rowsTaken q_t_columnsTaken q_t_ways q_t_scaled q_t_rowFactors q_t_columnFactors q_t_rest q_t_diagonals q_t_weights : Nat) (sz : Nat) (t_states : Int32) (t_isKept : Int32) (t_length : Int32) (t_spot : Int32) (t_toldRows : Int32) (t_z : Nat → Int32) (t_old : Nat → Int32) (o_t_old : Nat → Int32) (h : f_X10_takeOld t_z t_old = some o_t_old) : Met l yX10_takeOld wsX10_takeOld ({ frames := 1, cells := 0, slots := 0, locals := 25 } : Room) (va_Pc [.ref q_t] (pcW G [(q_t, .inr (9, [.ref q_t_z, .ref q_t_old, .ref q_t_past, .int t_states, .ref q_t_kept, .int t_isKept, .ref q_t_text, .int t_length, .ref q_t_order, .ref q_t_told, .int t_spot, .int t_toldRows, .ref q_t_rowsTaken, .ref q_t_columnsTaken, .ref q_t_ways, .ref q_t_scaled, .ref q_t_rowFactors, .ref q_t_columnFactors, .ref q_t_rest, .ref q_t_diagonals, .ref q_t_weights])), (q_t_z, .inl (G.2 0, 50, .inl t_z)), (q_t_old, .inl (G.2 0, 50, .inl t_old))] sz)) (va_Qv (fun (_ : Unit) => True) (fun _ t => atW G (va_A [(q_t, .inr (9, [.ref q_t_z, .ref q_t_old, .ref q_t_past, .int t_states, .ref q_t_kept, .int t_isKept, .ref q_t_text, .int t_length, .ref q_t_order, .ref q_t_told, .int t_spot, .int t_toldRows, .ref q_t_rowsTaken, .ref q_t_columnsTaken, .ref q_t_ways, .ref q_t_scaled, .ref q_t_rowFactors, .ref q_t_columnFactors, .ref q_t_rest, .ref q_t_diagonals, .ref q_t_weights])), (q_t_z, .inl (G.2 0, 50, .inl t_z)), (q_t_old, .inl (G.2 0, 50, .inl t_old))] sz) [(q_t, .inr (9, [.ref q_t_z, .ref q_t_old, .ref q_t_past, .int t_states, .ref q_t_kept, .int t_isKept, .ref q_t_text, .int t_length, .ref q_t_order, .ref q_t_told, .int t_spot, .int t_toldRows, .ref q_t_rowsTaken, .ref q_t_columnsTaken, .ref q_t_ways, .ref q_t_scaled, .ref q_t_rowFactors, .ref q_t_columnFactors, .ref q_t_rest, .ref q_t_diagonals, .ref q_t_weights])), (q_t_z, .inl (G.2 0, 50, .inl t_z)), (q_t_old, .inl (G.2 0, 50, .inl o_t_old))] t) (va_A [(q_t, .inr (9, [.ref q_t_z, .ref q_t_old, .ref q_t_past, .int t_states, .ref q_t_kept, .int t_isKept, .ref q_t_text, .int t_length, .ref q_t_order, .ref q_t_told, .int t_spot, .int t_toldRows, .ref q_t_rowsTaken, .ref q_t_columnsTaken, .ref q_t_ways, .ref q_t_scaled, .ref q_t_rowFactors, .ref q_t_columnFactors, .ref q_t_rest, .ref q_t_diagonals, .ref q_t_weights])), (q_t_z, .inl (G.2 0, 50, .inl t_z)), (q_t_old, .inl (G.2 0, 50, .inl t_old))] sz)) 0 0 (va_A [(q_t, .inr (9, [.ref q_t_z, .ref q_t_old, .ref q_t_past, .int t_states, .ref q_t_kept, .int t_isKept, .ref q_t_text, .int t_length, .ref q_t_order, .ref q_t_told, .int t_spot, .int t_toldRows, .ref q_t_rowsTaken, .ref q_t_columnsTaken, .ref q_t_ways, .ref q_t_scaled, .ref q_t_rowFactors, .ref q_t_columnFactors, .ref q_t_rest, .ref q_t_diagonals, .ref q_t_weights])), (q_t_z, .inl (G.2 0, 50, .inl t_z)), (q_t_old, .inl (G.2 0, 50, .inl t_old))] sz) := by
  refine Met.ofW (cc := cX10_takeOld) (maxL := 1) (ret := none) (by decide) rfl ?_
  intro p e s m args below meth c s₁ B hml hv
  obtain ⟨rfl, hsz, hP, hK, hD0⟩ := hv
  subst hsz
  have hD := hD0.self (sz := s.heap.size)
  generalize hAe : va_A [(q_t, .inr (9, [.ref q_t_z, .ref q_t_old, .ref q_t_past, .int t_states, .ref q_t_kept, .int t_isKept, .ref q_t_text, .int t_length, .ref q_t_order, .ref q_t_told, .int t_spot, .int t_toldRows, .ref q_t_rowsTaken, .ref q_t_columnsTaken, .ref q_t_ways, .ref q_t_scaled, .ref q_t_rowFactors, .ref q_t_columnFactors, .ref q_t_rest, .ref q_t_diagonals, .ref q_t_weights])), (q_t_z, .inl (G.2 0, 50, .inl t_z)), (q_t_old, .inl (G.2 0, 50, .inl t_old))] s.heap.size = A at hD ⊢
  have hA : ∀ q : Nat, s.heap.size ≤ q → A q := fun q h => by rw [← hAe]; exact Or.inr h
  have hl := lv_entry ([.ref q_t]) (n := 1) (Nat.le_of_ble_eq_true rfl)
  rw [lg_entry_eq]
  refine k_X10_takeOld ⟨B.exec, B.bytes, hml, findClass_of_methodNamed B.named, atoms_spec (ws := wsX10_takeOld) B.pre⟩ G hK hA q_t q_t_z q_t_old q_t_past q_t_kept q_t_text q_t_order q_t_told q_t_rowsTaken q_t_columnsTaken q_t_ways q_t_scaled q_t_rowFactors q_t_columnFactors q_t_rest q_t_diagonals q_t_weights _ _ _ _ _ _ _ _ h ?_ _ _ _ hP hD va_S.rf hl
  intro H locs ls pc hd hP hD hS
  exact W.vret B.exec B.bytes B.returns (fun t ht hW => ⟨⟨(), rfl, trivial, by rw [ht]; exact hP, hD⟩, hS.F ht⟩) hS.2.2 hd B.notSynchronized
set_option maxRecDepth 20000 in
theorem wd_X10_unlike_1 : Cond.fieldLink RX10 7 "PermanentDeskModel" "z" "[I" ∈ wsX10_unlike := List.mem_of_getElem? (i := 1) (by decide +kernel)
set_option maxRecDepth 20000 in
theorem wi_X10_unlike_X10 : ∀ w ∈ u_ws RX10 TX10 21, w ∈ wsX10_unlike := by decide +kernel
set_option maxRecDepth 20000 in
theorem wd_X10_unlike_2 : Cond.fieldLink RX10 13 "PermanentDeskModel" "old" "[I" ∈ wsX10_unlike := List.mem_of_getElem? (i := 2) (by decide +kernel)
set_option maxRecDepth 20000 in
theorem wd_X10_unlike_3 : Cond.constant RX10 75 (-2000000005) ∈ wsX10_unlike := List.mem_of_getElem? (i := 3) (by decide +kernel)
def f_X10_unlike_L1 (t_z : Nat → Int32) (t_old : Nat → Int32) : (Int32 × Int32) → Option ((Int32 × Int32) ⊕ Int32)
  | (x1, x2) =>
    if (49 : Int32) ≤ x2 then
      some (.inr x1)
    else
      gd (okI x2 50) (
      gd (okI x2 50) (
      if (t_z x2.toNatClampNeg) = (t_old x2.toNatClampNeg) then
        pl ((x1 + (0 : Int32)) : Int32) (fun x1_7 =>
        pl ((x2 + (1 : Int32)) : Int32) (fun x2_8 =>
        some (.inl (x1_7, x2_8))))
      else
        pl ((x1 + (1 : Int32)) : Int32) (fun x1_5 =>
        pl ((x2 + (1 : Int32)) : Int32) (fun x2_6 =>
        some (.inl (x1_5, x2_6))))))
def f_X10_unlike (t_states : Int32) (t_z : Nat → Int32) (t_old : Nat → Int32) (t_past : Nat → Int32) : Option (Int32 × Int32 × (Nat → Int32)) :=
  (lpN (f_X10_unlike_L1 t_z t_old) FU ((0 : Int32), (0 : Int32))).bind (fun x1_9 =>
  if x1_9 = 0 then
    some ((-2000000005 : Int32), t_states, t_past)
  else
    (f_X10_recordRow 50 t_states t_past t_old).bind (fun (t_states_13, t_past_14) =>
    some (x1_9, t_states_13, t_past_14)))
set_option maxHeartbeats 4000000 in
set_option maxRecDepth 100000 in
theorem l_X10_unlike_1 {p : Program} {l : Launch} {e : Env} {s : State} {m : MethodId} {args : Array Value} {below : List Frame} {meth : Method} {c : Code} {Q : State → Prop} {A0 : Nat → Prop} {H0 : Heap} (C : CallFix p m c cX10_unlike 3 s args wsX10_unlike RX10) (G : GT) (hK : gK G s) (hA : ∀ q : Nat, H0.size ≤ q → A0 q) (q_t q_t_z q_t_old q_t_past q_t_kept q_t_text q_t_order q_t_told q_t_rowsTaken q_t_columnsTaken q_t_ways q_t_scaled q_t_rowFactors q_t_columnFactors q_t_rest q_t_diagonals q_t_weights : Nat) (t_states : Int32) (t_isKept : Int32) (t_length : Int32) (t_spot : Int32) (t_toldRows : Int32) (t_z : Nat → Int32) (t_old : Nat → Int32) (t_past : Nat → Int32) (E_x1 : Int32) (K : ∀ (H : Heap) (locs : List Loc) (ls : Array Slot), va_P G.1 vwCl [(q_t, .inr (9, [.ref q_t_z, .ref q_t_old, .ref q_t_past, .int t_states, .ref q_t_kept, .int t_isKept, .ref q_t_text, .int t_length, .ref q_t_order, .ref q_t_told, .int t_spot, .int t_toldRows, .ref q_t_rowsTaken, .ref q_t_columnsTaken, .ref q_t_ways, .ref q_t_scaled, .ref q_t_rowFactors, .ref q_t_columnFactors, .ref q_t_rest, .ref q_t_diagonals, .ref q_t_weights])), (q_t_z, .inl (G.2 0, 50, .inl t_z)), (q_t_old, .inl (G.2 0, 50, .inl t_old)), (q_t_past, .inl (G.2 0, 200, .inl t_past))] H → va_D A0 [(q_t, .inr (9, [.ref q_t_z, .ref q_t_old, .ref q_t_past, .int t_states, .ref q_t_kept, .int t_isKept, .ref q_t_text, .int t_length, .ref q_t_order, .ref q_t_told, .int t_spot, .int t_toldRows, .ref q_t_rowsTaken, .ref q_t_columnsTaken, .ref q_t_ways, .ref q_t_scaled, .ref q_t_rowFactors, .ref q_t_columnFactors, .ref q_t_rest, .ref q_t_diagonals, .ref q_t_weights])), (q_t_z, .inl (G.2 0, 50, .inl t_z)), (q_t_old, .inl (G.2 0, 50, .inl t_old)), (q_t_past, .inl (G.2 0, 200, .inl t_past))] → va_S A0 H0 H locs → lv_has ls 3 [(0, .ref q_t), (1, .int E_x1)] → W p l e ({ frames := 2, cells := 0, slots := 0, locals := 46 } : Room) s m args below meth c H locs 0 0 Q (F0 m 39 ls [])) : ∀ (n : Nat) (x1 : Int32) (x2 : Int32), lpN (f_X10_unlike_L1 t_z t_old) n (x1, x2) = some E_x1 → ∀ (H : Heap) (locs : List Loc) (ls : Array Slot), va_P G.1 vwCl [(q_t, .inr (9, [.ref q_t_z, .ref q_t_old, .ref q_t_past, .int t_states, .ref q_t_kept, .int t_isKept, .ref q_t_text, .int t_length, .ref q_t_order, .ref q_t_told, .int t_spot, .int t_toldRows, .ref q_t_rowsTaken, .ref q_t_columnsTaken, .ref q_t_ways, .ref q_t_scaled, .ref q_t_rowFactors, .ref q_t_columnFactors, .ref q_t_rest, .ref q_t_diagonals, .ref q_t_weights])), (q_t_z, .inl (G.2 0, 50, .inl t_z)), (q_t_old, .inl (G.2 0, 50, .inl t_old)), (q_t_past, .inl (G.2 0, 200, .inl t_past))] H → va_D A0 [(q_t, .inr (9, [.ref q_t_z, .ref q_t_old, .ref q_t_past, .int t_states, .ref q_t_kept, .int t_isKept, .ref q_t_text, .int t_length, .ref q_t_order, .ref q_t_told, .int t_spot, .int t_toldRows, .ref q_t_rowsTaken, .ref q_t_columnsTaken, .ref q_t_ways, .ref q_t_scaled, .ref q_t_rowFactors, .ref q_t_columnFactors, .ref q_t_rest, .ref q_t_diagonals, .ref q_t_weights])), (q_t_z, .inl (G.2 0, 50, .inl t_z)), (q_t_old, .inl (G.2 0, 50, .inl t_old)), (q_t_past, .inl (G.2 0, 200, .inl t_past))] → va_S A0 H0 H locs → lv_has ls 3 [(0, .ref q_t), (1, .int x1), (2, .int x2)] → W p l e ({ frames := 2, cells := 0, slots := 0, locals := 46 } : Room) s m args below meth c H locs 0 0 Q (F0 m 4 ls []) := by
  obtain ⟨hx, hb, hml, hown, hts⟩ := C
  intro n
  induction n with
  | zero => intro x1 x2 h; exact absurd h (fun h => lp_0 h)
  | succ n ih =>
    intro x1 x2 h H locs ls hP hD hS hl
    obtain ⟨y, h, hk⟩ := lp_s h
    rw [f_X10_unlike_L1] at h
    refine lv_iload_n hx hb dX10_unlike_4 rfl (lv_at hl 2 rfl) ?_
    refine lv_bipush (v := 49) hx hb dX10_unlike_5 (by decide) ?_
    refine lv_icmp_ge (tgt := 39) hx hb dX10_unlike_7 (by decide) (fun c_1 => ?_) (fun c_1 => ?_)
    · replace h := it_t h c_1
      obtain rfl := sm1 h
      obtain rfl := sm1 hk
      exact K H locs ls hP hD hS (lv_sub hl [0, 1] rfl)
    · replace h := it_f h c_1
      refine lv_iload_n hx hb dX10_unlike_10 rfl (lv_at hl 1 rfl) ?_
      refine lv_aload_n hx hb dX10_unlike_11 rfl (lv_at hl 0 rfl) ?_
      refine va_get (D := G.1) (ci := 9) (v := .ref q_t_z) (C := RX10) (T := TX10) (N := 21) hx hb hts wi_X10_unlike_X10 hown hK hP 0 rfl rfl 0 (by decide) (hts _ wd_X10_unlike_1) (fun _ h9 => h9) rfl dX10_unlike_12 ?_
      refine lv_iload_n hx hb dX10_unlike_15 rfl (lv_at hl 2 rfl) ?_
      obtain ⟨g_2, h⟩ := gd_ok h
      refine va_iald (D := G.1) hx hb hK hP 1 0 rfl rfl g_2 dX10_unlike_16 ?_
      refine lv_aload_n hx hb dX10_unlike_17 rfl (lv_at hl 0 rfl) ?_
      refine va_get (D := G.1) (ci := 9) (v := .ref q_t_old) (C := RX10) (T := TX10) (N := 21) hx hb hts wi_X10_unlike_X10 hown hK hP 0 rfl rfl 1 (by decide) (hts _ wd_X10_unlike_2) (fun _ h9 => h9) rfl dX10_unlike_18 ?_
      refine lv_iload_n hx hb dX10_unlike_21 rfl (lv_at hl 2 rfl) ?_
      obtain ⟨g_3, h⟩ := gd_ok h
      refine va_iald (D := G.1) hx hb hK hP 2 0 rfl rfl g_3 dX10_unlike_22 ?_
      refine lv_icmp_ne (tgt := 30) hx hb dX10_unlike_23 (by decide) (fun c_4 => ?_) (fun c_4 => ?_)
      · replace h := it_f h c_4
        refine lv_iconst (v := 1) hx hb dX10_unlike_30 (by decide) ?_
        refine lv_iadd hx hb dX10_unlike_31 ?_
        refine lv_topi (fun x1_5 ex1_5 => ?_)
        replace h := pl_v h ex1_5
        refine lv_istore_n (lv' := [(1, .int x1_5), (0, .ref q_t), (2, .int x2)]) hx hb dX10_unlike_32 rfl hl (by decide) rfl (fun ls hl => ?_)
        obtain ⟨x2_6, ex2_6, h⟩ := pl_ok h
        refine lv_iinc (v := x2_6) (lv' := [(2, .int x2_6), (1, .int x1_5), (0, .ref q_t)]) hx hb dX10_unlike_33 hl (k := 2) rfl (by rw [ex2_6]; rfl) (by decide) rfl (fun ls hl => ?_)
        refine lv_goto (tgt := 4) hx hb dX10_unlike_36 (by decide) ?_
        obtain rfl := sm1 h
        exact ih x1_5 x2_6 hk H locs ls hP hD hS (lv_sub hl [2, 1, 0] rfl)
      · replace h := it_t h c_4
        refine lv_iconst (v := 0) hx hb dX10_unlike_26 (by decide) ?_
        refine lv_goto (tgt := 31) hx hb dX10_unlike_27 (by decide) ?_
        refine lv_iadd hx hb dX10_unlike_31 ?_
        refine lv_topi (fun x1_7 ex1_7 => ?_)
        replace h := pl_v h ex1_7
        refine lv_istore_n (lv' := [(1, .int x1_7), (0, .ref q_t), (2, .int x2)]) hx hb dX10_unlike_32 rfl hl (by decide) rfl (fun ls hl => ?_)
        obtain ⟨x2_8, ex2_8, h⟩ := pl_ok h
        refine lv_iinc (v := x2_8) (lv' := [(2, .int x2_8), (1, .int x1_7), (0, .ref q_t)]) hx hb dX10_unlike_33 hl (k := 2) rfl (by rw [ex2_8]; rfl) (by decide) rfl (fun ls hl => ?_)
        refine lv_goto (tgt := 4) hx hb dX10_unlike_36 (by decide) ?_
        obtain rfl := sm1 h
        exact ih x1_7 x2_8 hk H locs ls hP hD hS (lv_sub hl [2, 1, 0] rfl)
set_option maxHeartbeats 4000000 in
set_option maxRecDepth 100000 in
theorem k_X10_unlike {p : Program} {l : Launch} {e : Env} {s : State} {m : MethodId} {args : Array Value} {below : List Frame} {meth : Method} {c : Code} {Q : State → Prop} {A0 : Nat → Prop} {H0 : Heap} (C : CallFix p m c cX10_unlike 3 s args wsX10_unlike RX10) (G : GT) (hK : gK G s) (hA : ∀ q : Nat, H0.size ≤ q → A0 q) (q_t q_t_z q_t_old q_t_past q_t_kept q_t_text q_t_order q_t_told q_t_rowsTaken q_t_columnsTaken q_t_ways q_t_scaled q_t_rowFactors q_t_columnFactors q_t_rest q_t_diagonals q_t_weights : Nat) (t_states : Int32) (t_isKept : Int32) (t_length : Int32) (t_spot : Int32) (t_toldRows : Int32) (t_z : Nat → Int32) (t_old : Nat → Int32) (t_past : Nat → Int32) (r : Int32) (o_t_states : Int32) (o_t_past : Nat → Int32) (h : f_X10_unlike t_states t_z t_old t_past = some (r, o_t_states, o_t_past)) (KR : ∀ (H : Heap) (locs : List Loc) (ls : Array Slot) (pc : Nat), decode cX10_unlike pc = .ok (.ireturn, 1) → va_P G.1 vwCl [(q_t, .inr (9, [.ref q_t_z, .ref q_t_old, .ref q_t_past, .int o_t_states, .ref q_t_kept, .int t_isKept, .ref q_t_text, .int t_length, .ref q_t_order, .ref q_t_told, .int t_spot, .int t_toldRows, .ref q_t_rowsTaken, .ref q_t_columnsTaken, .ref q_t_ways, .ref q_t_scaled, .ref q_t_rowFactors, .ref q_t_columnFactors, .ref q_t_rest, .ref q_t_diagonals, .ref q_t_weights])), (q_t_z, .inl (G.2 0, 50, .inl t_z)), (q_t_old, .inl (G.2 0, 50, .inl t_old)), (q_t_past, .inl (G.2 0, 200, .inl o_t_past))] H → va_D A0 [(q_t, .inr (9, [.ref q_t_z, .ref q_t_old, .ref q_t_past, .int o_t_states, .ref q_t_kept, .int t_isKept, .ref q_t_text, .int t_length, .ref q_t_order, .ref q_t_told, .int t_spot, .int t_toldRows, .ref q_t_rowsTaken, .ref q_t_columnsTaken, .ref q_t_ways, .ref q_t_scaled, .ref q_t_rowFactors, .ref q_t_columnFactors, .ref q_t_rest, .ref q_t_diagonals, .ref q_t_weights])), (q_t_z, .inl (G.2 0, 50, .inl t_z)), (q_t_old, .inl (G.2 0, 50, .inl t_old)), (q_t_past, .inl (G.2 0, 200, .inl o_t_past))] → va_S A0 H0 H locs → W p l e ({ frames := 2, cells := 0, slots := 0, locals := 46 } : Room) s m args below meth c H locs 0 0 Q (F0 m pc ls [.int r])) : ∀ (H : Heap) (locs : List Loc) (ls : Array Slot), va_P G.1 vwCl [(q_t, .inr (9, [.ref q_t_z, .ref q_t_old, .ref q_t_past, .int t_states, .ref q_t_kept, .int t_isKept, .ref q_t_text, .int t_length, .ref q_t_order, .ref q_t_told, .int t_spot, .int t_toldRows, .ref q_t_rowsTaken, .ref q_t_columnsTaken, .ref q_t_ways, .ref q_t_scaled, .ref q_t_rowFactors, .ref q_t_columnFactors, .ref q_t_rest, .ref q_t_diagonals, .ref q_t_weights])), (q_t_z, .inl (G.2 0, 50, .inl t_z)), (q_t_old, .inl (G.2 0, 50, .inl t_old)), (q_t_past, .inl (G.2 0, 200, .inl t_past))] H → va_D A0 [(q_t, .inr (9, [.ref q_t_z, .ref q_t_old, .ref q_t_past, .int t_states, .ref q_t_kept, .int t_isKept, .ref q_t_text, .int t_length, .ref q_t_order, .ref q_t_told, .int t_spot, .int t_toldRows, .ref q_t_rowsTaken, .ref q_t_columnsTaken, .ref q_t_ways, .ref q_t_scaled, .ref q_t_rowFactors, .ref q_t_columnFactors, .ref q_t_rest, .ref q_t_diagonals, .ref q_t_weights])), (q_t_z, .inl (G.2 0, 50, .inl t_z)), (q_t_old, .inl (G.2 0, 50, .inl t_old)), (q_t_past, .inl (G.2 0, 200, .inl t_past))] → va_S A0 H0 H locs → lv_has ls 3 [(0, .ref q_t)] → W p l e ({ frames := 2, cells := 0, slots := 0, locals := 46 } : Room) s m args below meth c H locs 0 0 Q (F0 m 0 ls []) := by
  obtain ⟨hx, hb, hml, hown, hts⟩ := C
  intro H locs ls hP hD hS hl
  rw [f_X10_unlike] at h
  refine lv_iconst (v := 0) hx hb dX10_unlike_0 (by decide) ?_
  refine lv_istore_n (lv' := [(1, .int (0 : Int32)), (0, .ref q_t)]) hx hb dX10_unlike_1 rfl hl (by decide) rfl (fun ls hl => ?_)
  refine lv_iconst (v := 0) hx hb dX10_unlike_2 (by decide) ?_
  refine lv_istore_n (lv' := [(2, .int (0 : Int32)), (1, .int (0 : Int32)), (0, .ref q_t)]) hx hb dX10_unlike_3 rfl hl (by decide) rfl (fun ls hl => ?_)
  obtain ⟨x1_9, hz_11, h⟩ := bd_ok h
  refine l_X10_unlike_1 ⟨hx, hb, hml, hown, hts⟩ G hK hA q_t q_t_z q_t_old q_t_past q_t_kept q_t_text q_t_order q_t_told q_t_rowsTaken q_t_columnsTaken q_t_ways q_t_scaled q_t_rowFactors q_t_columnFactors q_t_rest q_t_diagonals q_t_weights t_states t_isKept t_length t_spot t_toldRows t_z t_old t_past x1_9 ?_ FU (0 : Int32) (0 : Int32) hz_11 H locs ls hP hD hS (lv_sub hl [2, 1, 0] rfl)
  intro H locs ls hP hD hS hl
  refine lv_iload_n hx hb dX10_unlike_39 rfl (lv_at hl 1 rfl) ?_
  refine lv_if_ne (tgt := 46) hx hb dX10_unlike_40 (by decide) (fun c_12 => ?_) (fun c_12 => ?_)
  · replace h := it_f h c_12
    refine lv_aload_n hx hb dX10_unlike_46 rfl (lv_at hl 0 rfl) ?_
    refine lv_aload_n hx hb dX10_unlike_47 rfl (lv_at hl 0 rfl) ?_
    refine va_get (D := G.1) (ci := 9) (v := .ref q_t_old) (C := RX10) (T := TX10) (N := 21) hx hb hts wi_X10_unlike_X10 hown hK hP 0 rfl rfl 1 (by decide) (hts _ wd_X10_unlike_2) (fun _ h9 => h9) rfl dX10_unlike_48 ?_
    obtain ⟨⟨t_states_13, t_past_14⟩, hf_15, h⟩ := bd_ok h
    refine ck_Vv (rest := []) (wn := [(q_t, .inr (9, [.ref q_t_z, .ref q_t_old, .ref q_t_past, .int t_states_13, .ref q_t_kept, .int t_isKept, .ref q_t_text, .int t_length, .ref q_t_order, .ref q_t_told, .int t_spot, .int t_toldRows, .ref q_t_rowsTaken, .ref q_t_columnsTaken, .ref q_t_ways, .ref q_t_scaled, .ref q_t_rowFactors, .ref q_t_columnFactors, .ref q_t_rest, .ref q_t_diagonals, .ref q_t_weights])), (q_t_z, .inl (G.2 0, 50, .inl t_z)), (q_t_old, .inl (G.2 0, 50, .inl t_old)), (q_t_past, .inl (G.2 0, 200, .inl t_past_14))]) ⟨hx, hb, hml, hown, hts⟩ hK hP hD hS hA [0, 3, 2] [1] [1, 0, 3, 2] (c_X10_recordRow l G q_t q_t_z q_t_old q_t_past q_t_kept q_t_text q_t_order q_t_told q_t_rowsTaken q_t_columnsTaken q_t_ways q_t_scaled q_t_rowFactors q_t_columnFactors q_t_rest q_t_diagonals q_t_weights q_t_old _ 50 t_states t_isKept t_length t_spot t_toldRows t_past t_old _ _ hf_15) (cwV 1 hts gX10_unlike_X10_recordRow rfl rfl rfl (by decide +kernel) ⟨Nat.le_of_ble_eq_true rfl, Nat.le_of_ble_eq_true rfl⟩) rfl rfl rfl rfl rfl rfl (by decide) rfl rfl rfl hl.1 rfl (Nat.le_of_ble_eq_true rfl) dX10_unlike_51 ⟨Nat.zero_le _, Nat.zero_le _⟩ (fun H locs hP hD hS => ?_)
    refine lv_iload_n hx hb dX10_unlike_54 rfl (lv_at hl 1 rfl) ?_
    obtain ⟨rfl, rfl, rfl⟩ := sm3 h
    exact KR H locs ls 55 dX10_unlike_55 hP hD hS
  · replace h := it_t h c_12
    refine lv_ldc (v := -2000000005) hx hb hown (hts _ wd_X10_unlike_3) dX10_unlike_43 ?_
    obtain ⟨rfl, rfl, rfl⟩ := sm3 h
    exact KR H locs ls 45 dX10_unlike_45 hP hD hS
set_option maxHeartbeats 4000000 in
set_option maxRecDepth 100000 in
theorem c_X10_unlike (l : Launch) (G : GT) (q_t q_t_z q_t_old q_t_past q_t_kept q_t_text q_t_order q_t_told q_t_rowsTaken q_t_columnsTaken q_t_ways q_t_scaled q_t_rowFactors q_t_columnFactors q_t_rest q_t_diagonals q_t_weights : Nat) (sz : Nat) (t_states : Int32) (t_isKept : Int32) (t_length : Int32) (t_spot : Int32) (t_toldRows : Int32) (t_z : Nat → Int32) (t_old : Nat → Int32) (t_past : Nat → Int32) (r : Int32) (o_t_states : Int32) (o_t_past : Nat → Int32) (h : f_X10_unlike t_states t_z t_old t_past = some (r, o_t_states, o_t_past)) : Met l yX10_unlike wsX10_unlike ({ frames := 2, cells := 0, slots := 0, locals := 46 } : Room) (va_Pc [.ref q_t] (pcW G [(q_t, .inr (9, [.ref q_t_z, .ref q_t_old, .ref q_t_past, .int t_states, .ref q_t_kept, .int t_isKept, .ref q_t_text, .int t_length, .ref q_t_order, .ref q_t_told, .int t_spot, .int t_toldRows, .ref q_t_rowsTaken, .ref q_t_columnsTaken, .ref q_t_ways, .ref q_t_scaled, .ref q_t_rowFactors, .ref q_t_columnFactors, .ref q_t_rest, .ref q_t_diagonals, .ref q_t_weights])), (q_t_z, .inl (G.2 0, 50, .inl t_z)), (q_t_old, .inl (G.2 0, 50, .inl t_old)), (q_t_past, .inl (G.2 0, 200, .inl t_past))] sz)) (va_Qi (fun r9 (_ : Unit) => r9 = r) (fun _ t => atW G (va_A [(q_t, .inr (9, [.ref q_t_z, .ref q_t_old, .ref q_t_past, .int t_states, .ref q_t_kept, .int t_isKept, .ref q_t_text, .int t_length, .ref q_t_order, .ref q_t_told, .int t_spot, .int t_toldRows, .ref q_t_rowsTaken, .ref q_t_columnsTaken, .ref q_t_ways, .ref q_t_scaled, .ref q_t_rowFactors, .ref q_t_columnFactors, .ref q_t_rest, .ref q_t_diagonals, .ref q_t_weights])), (q_t_z, .inl (G.2 0, 50, .inl t_z)), (q_t_old, .inl (G.2 0, 50, .inl t_old)), (q_t_past, .inl (G.2 0, 200, .inl t_past))] sz) [(q_t, .inr (9, [.ref q_t_z, .ref q_t_old, .ref q_t_past, .int o_t_states, .ref q_t_kept, .int t_isKept, .ref q_t_text, .int t_length, .ref q_t_order, .ref q_t_told, .int t_spot, .int t_toldRows, .ref q_t_rowsTaken, .ref q_t_columnsTaken, .ref q_t_ways, .ref q_t_scaled, .ref q_t_rowFactors, .ref q_t_columnFactors, .ref q_t_rest, .ref q_t_diagonals, .ref q_t_weights])), (q_t_z, .inl (G.2 0, 50, .inl t_z)), (q_t_old, .inl (G.2 0, 50, .inl t_old)), (q_t_past, .inl (G.2 0, 200, .inl o_t_past))] t) (va_A [(q_t, .inr (9, [.ref q_t_z, .ref q_t_old, .ref q_t_past, .int t_states, .ref q_t_kept, .int t_isKept, .ref q_t_text, .int t_length, .ref q_t_order, .ref q_t_told, .int t_spot, .int t_toldRows, .ref q_t_rowsTaken, .ref q_t_columnsTaken, .ref q_t_ways, .ref q_t_scaled, .ref q_t_rowFactors, .ref q_t_columnFactors, .ref q_t_rest, .ref q_t_diagonals, .ref q_t_weights])), (q_t_z, .inl (G.2 0, 50, .inl t_z)), (q_t_old, .inl (G.2 0, 50, .inl t_old)), (q_t_past, .inl (G.2 0, 200, .inl t_past))] sz)) 0 0 (va_A [(q_t, .inr (9, [.ref q_t_z, .ref q_t_old, .ref q_t_past, .int t_states, .ref q_t_kept, .int t_isKept, .ref q_t_text, .int t_length, .ref q_t_order, .ref q_t_told, .int t_spot, .int t_toldRows, .ref q_t_rowsTaken, .ref q_t_columnsTaken, .ref q_t_ways, .ref q_t_scaled, .ref q_t_rowFactors, .ref q_t_columnFactors, .ref q_t_rest, .ref q_t_diagonals, .ref q_t_weights])), (q_t_z, .inl (G.2 0, 50, .inl t_z)), (q_t_old, .inl (G.2 0, 50, .inl t_old)), (q_t_past, .inl (G.2 0, 200, .inl t_past))] sz) := by
  refine Met.ofW (cc := cX10_unlike) (maxL := 3) (ret := (some .int)) (by decide) rfl ?_
  intro p e s m args below meth c s₁ B hml hv
  obtain ⟨rfl, hsz, hP, hK, hD0⟩ := hv
  subst hsz
  have hD := hD0.self (sz := s.heap.size)
  generalize hAe : va_A [(q_t, .inr (9, [.ref q_t_z, .ref q_t_old, .ref q_t_past, .int t_states, .ref q_t_kept, .int t_isKept, .ref q_t_text, .int t_length, .ref q_t_order, .ref q_t_told, .int t_spot, .int t_toldRows, .ref q_t_rowsTaken, .ref q_t_columnsTaken, .ref q_t_ways, .ref q_t_scaled, .ref q_t_rowFactors, .ref q_t_columnFactors, .ref q_t_rest, .ref q_t_diagonals, .ref q_t_weights])), (q_t_z, .inl (G.2 0, 50, .inl t_z)), (q_t_old, .inl (G.2 0, 50, .inl t_old)), (q_t_past, .inl (G.2 0, 200, .inl t_past))] s.heap.size = A at hD ⊢
  have hA : ∀ q : Nat, s.heap.size ≤ q → A q := fun q h => by rw [← hAe]; exact Or.inr h
  have hl := lv_entry ([.ref q_t]) (n := 3) (Nat.le_of_ble_eq_true rfl)
  rw [lg_entry_eq]
  refine k_X10_unlike ⟨B.exec, B.bytes, hml, findClass_of_methodNamed B.named, atoms_spec (ws := wsX10_unlike) B.pre⟩ G hK hA q_t q_t_z q_t_old q_t_past q_t_kept q_t_text q_t_order q_t_told q_t_rowsTaken q_t_columnsTaken q_t_ways q_t_scaled q_t_rowFactors q_t_columnFactors q_t_rest q_t_diagonals q_t_weights _ _ _ _ _ _ _ _ _ _ _ h ?_ _ _ _ hP hD va_S.rf hl
  intro H locs ls pc hd hP hD hS
  exact W.iret B.exec B.bytes B.returns (fun t ht hW => ⟨⟨r, (), rfl, rfl, by rw [ht]; exact hP, hD⟩, hS.F ht⟩) hS.2.2 hd B.notSynchronized
set_option maxRecDepth 20000 in
theorem wd_X10_swapRows_1 : Cond.constant RX10 92 (-2000000001) ∈ wsX10_swapRows := List.mem_of_getElem? (i := 1) (by decide +kernel)
set_option maxRecDepth 20000 in
theorem wd_X10_swapRows_2 : Cond.fieldLink RX10 7 "PermanentDeskModel" "z" "[I" ∈ wsX10_swapRows := List.mem_of_getElem? (i := 2) (by decide +kernel)
set_option maxRecDepth 20000 in
theorem wi_X10_swapRows_X10 : ∀ w ∈ u_ws RX10 TX10 21, w ∈ wsX10_swapRows := by decide +kernel
set_option maxRecDepth 20000 in
theorem wd_X10_swapRows_3 : Cond.fieldLink RX10 13 "PermanentDeskModel" "old" "[I" ∈ wsX10_swapRows := List.mem_of_getElem? (i := 3) (by decide +kernel)
def f_X10_swapRows_L1 (x1 : Int32) (x2 : Int32) (t_old : Nat → Int32) : (Int32 × (Nat → Int32)) → Option ((Int32 × (Nat → Int32)) ⊕ (Nat → Int32))
  | (x3, t_z) =>
    if (7 : Int32) ≤ x3 then
      some (.inr t_z)
    else
      gd (okI (((7 : Int32) * x2) + x3) 50) (
      gd (okI (((7 : Int32) * x1) + x3) 50) (
      pl ((upd t_z (((7 : Int32) * x1) + x3).toNatClampNeg (t_old (((7 : Int32) * x2) + x3).toNatClampNeg)) : Nat → Int32) (fun t_z_12 =>
      gd (okI (((7 : Int32) * x1) + x3) 50) (
      gd (okI (((7 : Int32) * x2) + x3) 50) (
      pl ((upd t_z_12 (((7 : Int32) * x2) + x3).toNatClampNeg (t_old (((7 : Int32) * x1) + x3).toNatClampNeg)) : Nat → Int32) (fun t_z_15 =>
      pl ((x3 + (1 : Int32)) : Int32) (fun x3_16 =>
      some (.inl (x3_16, t_z_15)))))))))
def f_X10_swapRows (t_states : Int32) (t_z : Nat → Int32) (t_old : Nat → Int32) (t_past : Nat → Int32) (a1 : Int32) (a2 : Int32) : Option (Int32 × Int32 × (Nat → Int32) × (Nat → Int32) × (Nat → Int32)) :=
  (f_X10_isLine t_z a1).bind (fun r_1 =>
  if r_1 = 0 then
    some ((-2000000001 : Int32), t_states, t_z, t_old, t_past)
  else
    (f_X10_isLine t_z a2).bind (fun r_4 =>
    if r_4 = 0 then
      some ((-2000000001 : Int32), t_states, t_z, t_old, t_past)
    else
      (f_X10_takeOld t_z t_old).bind (fun t_old_7 =>
      (lpN (f_X10_swapRows_L1 a1 a2 t_old_7) FU ((0 : Int32), t_z)).bind (fun t_z_17 =>
      (f_X10_unlike t_states t_z_17 t_old_7 t_past).bind (fun (r_22, t_states_20, t_past_21) =>
      some (r_22, t_states_20, t_z_17, t_old_7, t_past_21))))))
set_option maxHeartbeats 4000000 in
set_option maxRecDepth 100000 in
theorem l_X10_swapRows_1 {p : Program} {l : Launch} {e : Env} {s : State} {m : MethodId} {args : Array Value} {below : List Frame} {meth : Method} {c : Code} {Q : State → Prop} {A0 : Nat → Prop} {H0 : Heap} (C : CallFix p m c cX10_swapRows 4 s args wsX10_swapRows RX10) (G : GT) (hK : gK G s) (hA : ∀ q : Nat, H0.size ≤ q → A0 q) (q_t q_t_z q_t_old q_t_past q_t_kept q_t_text q_t_order q_t_told q_t_rowsTaken q_t_columnsTaken q_t_ways q_t_scaled q_t_rowFactors q_t_columnFactors q_t_rest q_t_diagonals q_t_weights : Nat) (x1 : Int32) (x2 : Int32) (t_states : Int32) (t_isKept : Int32) (t_length : Int32) (t_spot : Int32) (t_toldRows : Int32) (t_old : Nat → Int32) (t_past : Nat → Int32) (E_t_z : Nat → Int32) (K : ∀ (H : Heap) (locs : List Loc) (ls : Array Slot), va_P G.1 vwCl [(q_t, .inr (9, [.ref q_t_z, .ref q_t_old, .ref q_t_past, .int t_states, .ref q_t_kept, .int t_isKept, .ref q_t_text, .int t_length, .ref q_t_order, .ref q_t_told, .int t_spot, .int t_toldRows, .ref q_t_rowsTaken, .ref q_t_columnsTaken, .ref q_t_ways, .ref q_t_scaled, .ref q_t_rowFactors, .ref q_t_columnFactors, .ref q_t_rest, .ref q_t_diagonals, .ref q_t_weights])), (q_t_z, .inl (G.2 0, 50, .inl E_t_z)), (q_t_old, .inl (G.2 0, 50, .inl t_old)), (q_t_past, .inl (G.2 0, 200, .inl t_past))] H → va_D A0 [(q_t, .inr (9, [.ref q_t_z, .ref q_t_old, .ref q_t_past, .int t_states, .ref q_t_kept, .int t_isKept, .ref q_t_text, .int t_length, .ref q_t_order, .ref q_t_told, .int t_spot, .int t_toldRows, .ref q_t_rowsTaken, .ref q_t_columnsTaken, .ref q_t_ways, .ref q_t_scaled, .ref q_t_rowFactors, .ref q_t_columnFactors, .ref q_t_rest, .ref q_t_diagonals, .ref q_t_weights])), (q_t_z, .inl (G.2 0, 50, .inl E_t_z)), (q_t_old, .inl (G.2 0, 50, .inl t_old)), (q_t_past, .inl (G.2 0, 200, .inl t_past))] → va_S A0 H0 H locs → lv_has ls 4 [(0, .ref q_t)] → W p l e ({ frames := 3, cells := 0, slots := 0, locals := 68 } : Room) s m args below meth c H locs 0 0 Q (F0 m 81 ls [])) : ∀ (n : Nat) (x3 : Int32) (t_z : Nat → Int32), lpN (f_X10_swapRows_L1 x1 x2 t_old) n (x3, t_z) = some E_t_z → ∀ (H : Heap) (locs : List Loc) (ls : Array Slot), va_P G.1 vwCl [(q_t, .inr (9, [.ref q_t_z, .ref q_t_old, .ref q_t_past, .int t_states, .ref q_t_kept, .int t_isKept, .ref q_t_text, .int t_length, .ref q_t_order, .ref q_t_told, .int t_spot, .int t_toldRows, .ref q_t_rowsTaken, .ref q_t_columnsTaken, .ref q_t_ways, .ref q_t_scaled, .ref q_t_rowFactors, .ref q_t_columnFactors, .ref q_t_rest, .ref q_t_diagonals, .ref q_t_weights])), (q_t_z, .inl (G.2 0, 50, .inl t_z)), (q_t_old, .inl (G.2 0, 50, .inl t_old)), (q_t_past, .inl (G.2 0, 200, .inl t_past))] H → va_D A0 [(q_t, .inr (9, [.ref q_t_z, .ref q_t_old, .ref q_t_past, .int t_states, .ref q_t_kept, .int t_isKept, .ref q_t_text, .int t_length, .ref q_t_order, .ref q_t_told, .int t_spot, .int t_toldRows, .ref q_t_rowsTaken, .ref q_t_columnsTaken, .ref q_t_ways, .ref q_t_scaled, .ref q_t_rowFactors, .ref q_t_columnFactors, .ref q_t_rest, .ref q_t_diagonals, .ref q_t_weights])), (q_t_z, .inl (G.2 0, 50, .inl t_z)), (q_t_old, .inl (G.2 0, 50, .inl t_old)), (q_t_past, .inl (G.2 0, 200, .inl t_past))] → va_S A0 H0 H locs → lv_has ls 4 [(0, .ref q_t), (1, .int x1), (2, .int x2), (3, .int x3)] → W p l e ({ frames := 3, cells := 0, slots := 0, locals := 68 } : Room) s m args below meth c H locs 0 0 Q (F0 m 25 ls []) := by
  obtain ⟨hx, hb, hml, hown, hts⟩ := C
  intro n
  induction n with
  | zero => intro x3 t_z h; exact absurd h (fun h => lp_0 h)
  | succ n ih =>
    intro x3 t_z h H locs ls hP hD hS hl
    obtain ⟨y, h, hk⟩ := lp_s h
    rw [f_X10_swapRows_L1] at h
    refine lv_iload_n hx hb dX10_swapRows_25 rfl (lv_at hl 3 rfl) ?_
    refine lv_bipush (v := 7) hx hb dX10_swapRows_26 (by decide) ?_
    refine lv_icmp_ge (tgt := 81) hx hb dX10_swapRows_28 (by decide) (fun c_9 => ?_) (fun c_9 => ?_)
    · replace h := it_t h c_9
      obtain rfl := sm1 h
      obtain rfl := sm1 hk
      exact K H locs ls hP hD hS (lv_sub hl [0] rfl)
    · replace h := it_f h c_9
      refine lv_aload_n hx hb dX10_swapRows_31 rfl (lv_at hl 0 rfl) ?_
      refine va_get (D := G.1) (ci := 9) (v := .ref q_t_z) (C := RX10) (T := TX10) (N := 21) hx hb hts wi_X10_swapRows_X10 hown hK hP 0 rfl rfl 0 (by decide) (hts _ wd_X10_swapRows_2) (fun _ h9 => h9) rfl dX10_swapRows_32 ?_
      refine lv_bipush (v := 7) hx hb dX10_swapRows_35 (by decide) ?_
      refine lv_iload_n hx hb dX10_swapRows_37 rfl (lv_at hl 1 rfl) ?_
      refine lv_imul hx hb dX10_swapRows_38 ?_
      refine lv_iload_n hx hb dX10_swapRows_39 rfl (lv_at hl 3 rfl) ?_
      refine lv_iadd hx hb dX10_swapRows_40 ?_
      refine lv_aload_n hx hb dX10_swapRows_41 rfl (lv_at hl 0 rfl) ?_
      refine va_get (D := G.1) (ci := 9) (v := .ref q_t_old) (C := RX10) (T := TX10) (N := 21) hx hb hts wi_X10_swapRows_X10 hown hK hP 0 rfl rfl 1 (by decide) (hts _ wd_X10_swapRows_3) (fun _ h9 => h9) rfl dX10_swapRows_42 ?_
      refine lv_bipush (v := 7) hx hb dX10_swapRows_45 (by decide) ?_
      refine lv_iload_n hx hb dX10_swapRows_47 rfl (lv_at hl 2 rfl) ?_
      refine lv_imul hx hb dX10_swapRows_48 ?_
      refine lv_iload_n hx hb dX10_swapRows_49 rfl (lv_at hl 3 rfl) ?_
      refine lv_iadd hx hb dX10_swapRows_50 ?_
      obtain ⟨g_10, h⟩ := gd_ok h
      refine va_iald (D := G.1) hx hb hK hP 2 0 rfl rfl g_10 dX10_swapRows_51 ?_
      obtain ⟨g_11, h⟩ := gd_ok h
      obtain ⟨t_z_12, et_z_12, h⟩ := pl_ok h
      refine st_i (D := G.1) (wn := [(q_t, .inr (9, [.ref q_t_z, .ref q_t_old, .ref q_t_past, .int t_states, .ref q_t_kept, .int t_isKept, .ref q_t_text, .int t_length, .ref q_t_order, .ref q_t_told, .int t_spot, .int t_toldRows, .ref q_t_rowsTaken, .ref q_t_columnsTaken, .ref q_t_ways, .ref q_t_scaled, .ref q_t_rowFactors, .ref q_t_columnFactors, .ref q_t_rest, .ref q_t_diagonals, .ref q_t_weights])), (q_t_z, .inl (G.2 0, 50, .inl t_z_12)), (q_t_old, .inl (G.2 0, 50, .inl t_old)), (q_t_past, .inl (G.2 0, 200, .inl t_past))]) hx hb hK hP hD hS 1 0 rfl rfl g_11 dX10_swapRows_52 et_z_12 rfl (fun H locs hP hD hS => ?_)
      refine lv_aload_n hx hb dX10_swapRows_53 rfl (lv_at hl 0 rfl) ?_
      refine va_get (D := G.1) (ci := 9) (v := .ref q_t_z) (C := RX10) (T := TX10) (N := 21) hx hb hts wi_X10_swapRows_X10 hown hK hP 0 rfl rfl 0 (by decide) (hts _ wd_X10_swapRows_2) (fun _ h9 => h9) rfl dX10_swapRows_54 ?_
      refine lv_bipush (v := 7) hx hb dX10_swapRows_57 (by decide) ?_
      refine lv_iload_n hx hb dX10_swapRows_59 rfl (lv_at hl 2 rfl) ?_
      refine lv_imul hx hb dX10_swapRows_60 ?_
      refine lv_iload_n hx hb dX10_swapRows_61 rfl (lv_at hl 3 rfl) ?_
      refine lv_iadd hx hb dX10_swapRows_62 ?_
      refine lv_aload_n hx hb dX10_swapRows_63 rfl (lv_at hl 0 rfl) ?_
      refine va_get (D := G.1) (ci := 9) (v := .ref q_t_old) (C := RX10) (T := TX10) (N := 21) hx hb hts wi_X10_swapRows_X10 hown hK hP 0 rfl rfl 1 (by decide) (hts _ wd_X10_swapRows_3) (fun _ h9 => h9) rfl dX10_swapRows_64 ?_
      refine lv_bipush (v := 7) hx hb dX10_swapRows_67 (by decide) ?_
      refine lv_iload_n hx hb dX10_swapRows_69 rfl (lv_at hl 1 rfl) ?_
      refine lv_imul hx hb dX10_swapRows_70 ?_
      refine lv_iload_n hx hb dX10_swapRows_71 rfl (lv_at hl 3 rfl) ?_
      refine lv_iadd hx hb dX10_swapRows_72 ?_
      obtain ⟨g_13, h⟩ := gd_ok h
      refine va_iald (D := G.1) hx hb hK hP 2 0 rfl rfl g_13 dX10_swapRows_73 ?_
      obtain ⟨g_14, h⟩ := gd_ok h
      obtain ⟨t_z_15, et_z_15, h⟩ := pl_ok h
      refine st_i (D := G.1) (wn := [(q_t, .inr (9, [.ref q_t_z, .ref q_t_old, .ref q_t_past, .int t_states, .ref q_t_kept, .int t_isKept, .ref q_t_text, .int t_length, .ref q_t_order, .ref q_t_told, .int t_spot, .int t_toldRows, .ref q_t_rowsTaken, .ref q_t_columnsTaken, .ref q_t_ways, .ref q_t_scaled, .ref q_t_rowFactors, .ref q_t_columnFactors, .ref q_t_rest, .ref q_t_diagonals, .ref q_t_weights])), (q_t_z, .inl (G.2 0, 50, .inl t_z_15)), (q_t_old, .inl (G.2 0, 50, .inl t_old)), (q_t_past, .inl (G.2 0, 200, .inl t_past))]) hx hb hK hP hD hS 1 0 rfl rfl g_14 dX10_swapRows_74 et_z_15 rfl (fun H locs hP hD hS => ?_)
      obtain ⟨x3_16, ex3_16, h⟩ := pl_ok h
      refine lv_iinc (v := x3_16) (lv' := [(3, .int x3_16), (0, .ref q_t), (1, .int x1), (2, .int x2)]) hx hb dX10_swapRows_75 hl (k := 3) rfl (by rw [ex3_16]; rfl) (by decide) rfl (fun ls hl => ?_)
      refine lv_goto (tgt := 25) hx hb dX10_swapRows_78 (by decide) ?_
      obtain rfl := sm1 h
      exact ih x3_16 t_z_15 hk H locs ls hP hD hS (lv_sub hl [1, 2, 3, 0] rfl)
set_option maxHeartbeats 4000000 in
set_option maxRecDepth 100000 in
theorem k_X10_swapRows {p : Program} {l : Launch} {e : Env} {s : State} {m : MethodId} {args : Array Value} {below : List Frame} {meth : Method} {c : Code} {Q : State → Prop} {A0 : Nat → Prop} {H0 : Heap} (C : CallFix p m c cX10_swapRows 4 s args wsX10_swapRows RX10) (G : GT) (hK : gK G s) (hA : ∀ q : Nat, H0.size ≤ q → A0 q) (q_t q_t_z q_t_old q_t_past q_t_kept q_t_text q_t_order q_t_told q_t_rowsTaken q_t_columnsTaken q_t_ways q_t_scaled q_t_rowFactors q_t_columnFactors q_t_rest q_t_diagonals q_t_weights : Nat) (t_states : Int32) (t_isKept : Int32) (t_length : Int32) (t_spot : Int32) (t_toldRows : Int32) (t_z : Nat → Int32) (t_old : Nat → Int32) (t_past : Nat → Int32) (a1 : Int32) (a2 : Int32) (r : Int32) (o_t_states : Int32) (o_t_z : Nat → Int32) (o_t_old : Nat → Int32) (o_t_past : Nat → Int32) (h : f_X10_swapRows t_states t_z t_old t_past a1 a2 = some (r, o_t_states, o_t_z, o_t_old, o_t_past)) (KR : ∀ (H : Heap) (locs : List Loc) (ls : Array Slot) (pc : Nat), decode cX10_swapRows pc = .ok (.ireturn, 1) → va_P G.1 vwCl [(q_t, .inr (9, [.ref q_t_z, .ref q_t_old, .ref q_t_past, .int o_t_states, .ref q_t_kept, .int t_isKept, .ref q_t_text, .int t_length, .ref q_t_order, .ref q_t_told, .int t_spot, .int t_toldRows, .ref q_t_rowsTaken, .ref q_t_columnsTaken, .ref q_t_ways, .ref q_t_scaled, .ref q_t_rowFactors, .ref q_t_columnFactors, .ref q_t_rest, .ref q_t_diagonals, .ref q_t_weights])), (q_t_z, .inl (G.2 0, 50, .inl o_t_z)), (q_t_old, .inl (G.2 0, 50, .inl o_t_old)), (q_t_past, .inl (G.2 0, 200, .inl o_t_past))] H → va_D A0 [(q_t, .inr (9, [.ref q_t_z, .ref q_t_old, .ref q_t_past, .int o_t_states, .ref q_t_kept, .int t_isKept, .ref q_t_text, .int t_length, .ref q_t_order, .ref q_t_told, .int t_spot, .int t_toldRows, .ref q_t_rowsTaken, .ref q_t_columnsTaken, .ref q_t_ways, .ref q_t_scaled, .ref q_t_rowFactors, .ref q_t_columnFactors, .ref q_t_rest, .ref q_t_diagonals, .ref q_t_weights])), (q_t_z, .inl (G.2 0, 50, .inl o_t_z)), (q_t_old, .inl (G.2 0, 50, .inl o_t_old)), (q_t_past, .inl (G.2 0, 200, .inl o_t_past))] → va_S A0 H0 H locs → W p l e ({ frames := 3, cells := 0, slots := 0, locals := 68 } : Room) s m args below meth c H locs 0 0 Q (F0 m pc ls [.int r])) : ∀ (H : Heap) (locs : List Loc) (ls : Array Slot), va_P G.1 vwCl [(q_t, .inr (9, [.ref q_t_z, .ref q_t_old, .ref q_t_past, .int t_states, .ref q_t_kept, .int t_isKept, .ref q_t_text, .int t_length, .ref q_t_order, .ref q_t_told, .int t_spot, .int t_toldRows, .ref q_t_rowsTaken, .ref q_t_columnsTaken, .ref q_t_ways, .ref q_t_scaled, .ref q_t_rowFactors, .ref q_t_columnFactors, .ref q_t_rest, .ref q_t_diagonals, .ref q_t_weights])), (q_t_z, .inl (G.2 0, 50, .inl t_z)), (q_t_old, .inl (G.2 0, 50, .inl t_old)), (q_t_past, .inl (G.2 0, 200, .inl t_past))] H → va_D A0 [(q_t, .inr (9, [.ref q_t_z, .ref q_t_old, .ref q_t_past, .int t_states, .ref q_t_kept, .int t_isKept, .ref q_t_text, .int t_length, .ref q_t_order, .ref q_t_told, .int t_spot, .int t_toldRows, .ref q_t_rowsTaken, .ref q_t_columnsTaken, .ref q_t_ways, .ref q_t_scaled, .ref q_t_rowFactors, .ref q_t_columnFactors, .ref q_t_rest, .ref q_t_diagonals, .ref q_t_weights])), (q_t_z, .inl (G.2 0, 50, .inl t_z)), (q_t_old, .inl (G.2 0, 50, .inl t_old)), (q_t_past, .inl (G.2 0, 200, .inl t_past))] → va_S A0 H0 H locs → lv_has ls 4 [(0, .ref q_t), (1, .int a1), (2, .int a2)] → W p l e ({ frames := 3, cells := 0, slots := 0, locals := 68 } : Room) s m args below meth c H locs 0 0 Q (F0 m 0 ls []) := by
  obtain ⟨hx, hb, hml, hown, hts⟩ := C
  intro H locs ls hP hD hS hl
  rw [f_X10_swapRows] at h
  refine lv_aload_n hx hb dX10_swapRows_0 rfl (lv_at hl 0 rfl) ?_
  refine lv_iload_n hx hb dX10_swapRows_1 rfl (lv_at hl 1 rfl) ?_
  obtain ⟨r_1, hf_2, h⟩ := bd_ok h
  refine ck_Vi (rest := []) (wn := [(q_t, .inr (9, [.ref q_t_z, .ref q_t_old, .ref q_t_past, .int t_states, .ref q_t_kept, .int t_isKept, .ref q_t_text, .int t_length, .ref q_t_order, .ref q_t_told, .int t_spot, .int t_toldRows, .ref q_t_rowsTaken, .ref q_t_columnsTaken, .ref q_t_ways, .ref q_t_scaled, .ref q_t_rowFactors, .ref q_t_columnFactors, .ref q_t_rest, .ref q_t_diagonals, .ref q_t_weights])), (q_t_z, .inl (G.2 0, 50, .inl t_z)), (q_t_old, .inl (G.2 0, 50, .inl t_old)), (q_t_past, .inl (G.2 0, 200, .inl t_past))]) ⟨hx, hb, hml, hown, hts⟩ hK hP hD hS hA [0, 1] [2, 3] [2, 3, 0, 1] (c_X10_isLine l G q_t q_t_z q_t_old q_t_past q_t_kept q_t_text q_t_order q_t_told q_t_rowsTaken q_t_columnsTaken q_t_ways q_t_scaled q_t_rowFactors q_t_columnFactors q_t_rest q_t_diagonals q_t_weights _ t_states t_isKept t_length t_spot t_toldRows t_z a1 _ hf_2) (cwV 1 hts gX10_swapRows_X10_isLine rfl rfl rfl (by decide +kernel) ⟨Nat.le_of_ble_eq_true rfl, Nat.le_of_ble_eq_true rfl⟩) rfl rfl rfl rfl rfl rfl (by decide) rfl rfl rfl hl.1 rfl (Nat.le_of_ble_eq_true rfl) dX10_swapRows_2 ⟨Nat.zero_le _, Nat.zero_le _⟩ (fun H locs hP hD hS => ?_)
  refine lv_if_eq (tgt := 16) hx hb dX10_swapRows_5 (by decide) (fun c_3 => ?_) (fun c_3 => ?_)
  · replace h := it_t h c_3
    refine lv_ldc (v := -2000000001) hx hb hown (hts _ wd_X10_swapRows_1) dX10_swapRows_16 ?_
    obtain ⟨rfl, rfl, rfl, rfl, rfl⟩ := sm5 h
    exact KR H locs ls 18 dX10_swapRows_18 hP hD hS
  · replace h := it_f h c_3
    refine lv_aload_n hx hb dX10_swapRows_8 rfl (lv_at hl 0 rfl) ?_
    refine lv_iload_n hx hb dX10_swapRows_9 rfl (lv_at hl 2 rfl) ?_
    obtain ⟨r_4, hf_5, h⟩ := bd_ok h
    refine ck_Vi (rest := []) (wn := [(q_t, .inr (9, [.ref q_t_z, .ref q_t_old, .ref q_t_past, .int t_states, .ref q_t_kept, .int t_isKept, .ref q_t_text, .int t_length, .ref q_t_order, .ref q_t_told, .int t_spot, .int t_toldRows, .ref q_t_rowsTaken, .ref q_t_columnsTaken, .ref q_t_ways, .ref q_t_scaled, .ref q_t_rowFactors, .ref q_t_columnFactors, .ref q_t_rest, .ref q_t_diagonals, .ref q_t_weights])), (q_t_z, .inl (G.2 0, 50, .inl t_z)), (q_t_old, .inl (G.2 0, 50, .inl t_old)), (q_t_past, .inl (G.2 0, 200, .inl t_past))]) ⟨hx, hb, hml, hown, hts⟩ hK hP hD hS hA [0, 1] [2, 3] [2, 3, 0, 1] (c_X10_isLine l G q_t q_t_z q_t_old q_t_past q_t_kept q_t_text q_t_order q_t_told q_t_rowsTaken q_t_columnsTaken q_t_ways q_t_scaled q_t_rowFactors q_t_columnFactors q_t_rest q_t_diagonals q_t_weights _ t_states t_isKept t_length t_spot t_toldRows t_z a2 _ hf_5) (cwV 1 hts gX10_swapRows_X10_isLine rfl rfl rfl (by decide +kernel) ⟨Nat.le_of_ble_eq_true rfl, Nat.le_of_ble_eq_true rfl⟩) rfl rfl rfl rfl rfl rfl (by decide) rfl rfl rfl hl.1 rfl (Nat.le_of_ble_eq_true rfl) dX10_swapRows_10 ⟨Nat.zero_le _, Nat.zero_le _⟩ (fun H locs hP hD hS => ?_)
    refine lv_if_ne (tgt := 19) hx hb dX10_swapRows_13 (by decide) (fun c_6 => ?_) (fun c_6 => ?_)
    · replace h := it_f h c_6
      refine lv_aload_n hx hb dX10_swapRows_19 rfl (lv_at hl 0 rfl) ?_
      obtain ⟨t_old_7, hf_8, h⟩ := bd_ok h
      refine ck_Vv (rest := []) (wn := [(q_t, .inr (9, [.ref q_t_z, .ref q_t_old, .ref q_t_past, .int t_states, .ref q_t_kept, .int t_isKept, .ref q_t_text, .int t_length, .ref q_t_order, .ref q_t_told, .int t_spot, .int t_toldRows, .ref q_t_rowsTaken, .ref q_t_columnsTaken, .ref q_t_ways, .ref q_t_scaled, .ref q_t_rowFactors, .ref q_t_columnFactors, .ref q_t_rest, .ref q_t_diagonals, .ref q_t_weights])), (q_t_z, .inl (G.2 0, 50, .inl t_z)), (q_t_old, .inl (G.2 0, 50, .inl t_old_7)), (q_t_past, .inl (G.2 0, 200, .inl t_past))]) ⟨hx, hb, hml, hown, hts⟩ hK hP hD hS hA [0, 1, 2] [3] [1, 2, 3, 0] (c_X10_takeOld l G q_t q_t_z q_t_old q_t_past q_t_kept q_t_text q_t_order q_t_told q_t_rowsTaken q_t_columnsTaken q_t_ways q_t_scaled q_t_rowFactors q_t_columnFactors q_t_rest q_t_diagonals q_t_weights _ t_states t_isKept t_length t_spot t_toldRows t_z t_old _ hf_8) (cwV 0 hts gX10_swapRows_X10_takeOld rfl rfl rfl (by decide +kernel) ⟨Nat.le_of_ble_eq_true rfl, Nat.le_of_ble_eq_true rfl⟩) rfl rfl rfl rfl rfl rfl (by decide) rfl rfl rfl hl.1 rfl (Nat.le_of_ble_eq_true rfl) dX10_swapRows_20 ⟨Nat.zero_le _, Nat.zero_le _⟩ (fun H locs hP hD hS => ?_)
      refine lv_iconst (v := 0) hx hb dX10_swapRows_23 (by decide) ?_
      refine lv_istore_n (lv' := [(3, .int (0 : Int32)), (0, .ref q_t), (1, .int a1), (2, .int a2)]) hx hb dX10_swapRows_24 rfl hl (by decide) rfl (fun ls hl => ?_)
      obtain ⟨t_z_17, hz_19, h⟩ := bd_ok h
      refine l_X10_swapRows_1 ⟨hx, hb, hml, hown, hts⟩ G hK hA q_t q_t_z q_t_old q_t_past q_t_kept q_t_text q_t_order q_t_told q_t_rowsTaken q_t_columnsTaken q_t_ways q_t_scaled q_t_rowFactors q_t_columnFactors q_t_rest q_t_diagonals q_t_weights a1 a2 t_states t_isKept t_length t_spot t_toldRows t_old_7 t_past t_z_17 ?_ FU (0 : Int32) t_z hz_19 H locs ls hP hD hS (lv_sub hl [1, 2, 3, 0] rfl)
      intro H locs ls hP hD hS hl
      refine lv_aload_n hx hb dX10_swapRows_81 rfl (lv_at hl 0 rfl) ?_
      obtain ⟨⟨r_22, t_states_20, t_past_21⟩, hf_23, h⟩ := bd_ok h
      refine ck_Vi (rest := []) (wn := [(q_t, .inr (9, [.ref q_t_z, .ref q_t_old, .ref q_t_past, .int t_states_20, .ref q_t_kept, .int t_isKept, .ref q_t_text, .int t_length, .ref q_t_order, .ref q_t_told, .int t_spot, .int t_toldRows, .ref q_t_rowsTaken, .ref q_t_columnsTaken, .ref q_t_ways, .ref q_t_scaled, .ref q_t_rowFactors, .ref q_t_columnFactors, .ref q_t_rest, .ref q_t_diagonals, .ref q_t_weights])), (q_t_z, .inl (G.2 0, 50, .inl t_z_17)), (q_t_old, .inl (G.2 0, 50, .inl t_old_7)), (q_t_past, .inl (G.2 0, 200, .inl t_past_21))]) ⟨hx, hb, hml, hown, hts⟩ hK hP hD hS hA [0, 1, 2, 3] [] [0, 1, 2, 3] (c_X10_unlike l G q_t q_t_z q_t_old q_t_past q_t_kept q_t_text q_t_order q_t_told q_t_rowsTaken q_t_columnsTaken q_t_ways q_t_scaled q_t_rowFactors q_t_columnFactors q_t_rest q_t_diagonals q_t_weights _ t_states t_isKept t_length t_spot t_toldRows t_z_17 t_old_7 t_past _ _ _ hf_23) (cwV 0 hts gX10_swapRows_X10_unlike rfl rfl rfl (by decide +kernel) ⟨Nat.le_of_ble_eq_true rfl, Nat.le_of_ble_eq_true rfl⟩) rfl rfl rfl rfl rfl rfl (by decide) rfl rfl rfl hl.1 rfl (Nat.le_of_ble_eq_true rfl) dX10_swapRows_82 ⟨Nat.zero_le _, Nat.zero_le _⟩ (fun H locs hP hD hS => ?_)
      obtain ⟨rfl, rfl, rfl, rfl, rfl⟩ := sm5 h
      exact KR H locs ls 85 dX10_swapRows_85 hP hD hS
    · replace h := it_t h c_6
      refine lv_ldc (v := -2000000001) hx hb hown (hts _ wd_X10_swapRows_1) dX10_swapRows_16 ?_
      obtain ⟨rfl, rfl, rfl, rfl, rfl⟩ := sm5 h
      exact KR H locs ls 18 dX10_swapRows_18 hP hD hS
set_option maxHeartbeats 4000000 in
set_option maxRecDepth 100000 in
theorem c_X10_swapRows (l : Launch) (G : GT) (q_t q_t_z q_t_old q_t_past q_t_kept q_t_text q_t_order q_t_told q_t_rowsTaken q_t_columnsTaken q_t_ways q_t_scaled q_t_rowFactors q_t_columnFactors q_t_rest q_t_diagonals q_t_weights : Nat) (sz : Nat) (t_states : Int32) (t_isKept : Int32) (t_length : Int32) (t_spot : Int32) (t_toldRows : Int32) (t_z : Nat → Int32) (t_old : Nat → Int32) (t_past : Nat → Int32) (a1 : Int32) (a2 : Int32) (r : Int32) (o_t_states : Int32) (o_t_z : Nat → Int32) (o_t_old : Nat → Int32) (o_t_past : Nat → Int32) (h : f_X10_swapRows t_states t_z t_old t_past a1 a2 = some (r, o_t_states, o_t_z, o_t_old, o_t_past)) : Met l yX10_swapRows wsX10_swapRows ({ frames := 3, cells := 0, slots := 0, locals := 68 } : Room) (va_Pc [.ref q_t, .int a1, .int a2] (pcW G [(q_t, .inr (9, [.ref q_t_z, .ref q_t_old, .ref q_t_past, .int t_states, .ref q_t_kept, .int t_isKept, .ref q_t_text, .int t_length, .ref q_t_order, .ref q_t_told, .int t_spot, .int t_toldRows, .ref q_t_rowsTaken, .ref q_t_columnsTaken, .ref q_t_ways, .ref q_t_scaled, .ref q_t_rowFactors, .ref q_t_columnFactors, .ref q_t_rest, .ref q_t_diagonals, .ref q_t_weights])), (q_t_z, .inl (G.2 0, 50, .inl t_z)), (q_t_old, .inl (G.2 0, 50, .inl t_old)), (q_t_past, .inl (G.2 0, 200, .inl t_past))] sz)) (va_Qi (fun r9 (_ : Unit) => r9 = r) (fun _ t => atW G (va_A [(q_t, .inr (9, [.ref q_t_z, .ref q_t_old, .ref q_t_past, .int t_states, .ref q_t_kept, .int t_isKept, .ref q_t_text, .int t_length, .ref q_t_order, .ref q_t_told, .int t_spot, .int t_toldRows, .ref q_t_rowsTaken, .ref q_t_columnsTaken, .ref q_t_ways, .ref q_t_scaled, .ref q_t_rowFactors, .ref q_t_columnFactors, .ref q_t_rest, .ref q_t_diagonals, .ref q_t_weights])), (q_t_z, .inl (G.2 0, 50, .inl t_z)), (q_t_old, .inl (G.2 0, 50, .inl t_old)), (q_t_past, .inl (G.2 0, 200, .inl t_past))] sz) [(q_t, .inr (9, [.ref q_t_z, .ref q_t_old, .ref q_t_past, .int o_t_states, .ref q_t_kept, .int t_isKept, .ref q_t_text, .int t_length, .ref q_t_order, .ref q_t_told, .int t_spot, .int t_toldRows, .ref q_t_rowsTaken, .ref q_t_columnsTaken, .ref q_t_ways, .ref q_t_scaled, .ref q_t_rowFactors, .ref q_t_columnFactors, .ref q_t_rest, .ref q_t_diagonals, .ref q_t_weights])), (q_t_z, .inl (G.2 0, 50, .inl o_t_z)), (q_t_old, .inl (G.2 0, 50, .inl o_t_old)), (q_t_past, .inl (G.2 0, 200, .inl o_t_past))] t) (va_A [(q_t, .inr (9, [.ref q_t_z, .ref q_t_old, .ref q_t_past, .int t_states, .ref q_t_kept, .int t_isKept, .ref q_t_text, .int t_length, .ref q_t_order, .ref q_t_told, .int t_spot, .int t_toldRows, .ref q_t_rowsTaken, .ref q_t_columnsTaken, .ref q_t_ways, .ref q_t_scaled, .ref q_t_rowFactors, .ref q_t_columnFactors, .ref q_t_rest, .ref q_t_diagonals, .ref q_t_weights])), (q_t_z, .inl (G.2 0, 50, .inl t_z)), (q_t_old, .inl (G.2 0, 50, .inl t_old)), (q_t_past, .inl (G.2 0, 200, .inl t_past))] sz)) 0 0 (va_A [(q_t, .inr (9, [.ref q_t_z, .ref q_t_old, .ref q_t_past, .int t_states, .ref q_t_kept, .int t_isKept, .ref q_t_text, .int t_length, .ref q_t_order, .ref q_t_told, .int t_spot, .int t_toldRows, .ref q_t_rowsTaken, .ref q_t_columnsTaken, .ref q_t_ways, .ref q_t_scaled, .ref q_t_rowFactors, .ref q_t_columnFactors, .ref q_t_rest, .ref q_t_diagonals, .ref q_t_weights])), (q_t_z, .inl (G.2 0, 50, .inl t_z)), (q_t_old, .inl (G.2 0, 50, .inl t_old)), (q_t_past, .inl (G.2 0, 200, .inl t_past))] sz) := by
  refine Met.ofW (cc := cX10_swapRows) (maxL := 4) (ret := (some .int)) (by decide) rfl ?_
  intro p e s m args below meth c s₁ B hml hv
  obtain ⟨rfl, hsz, hP, hK, hD0⟩ := hv
  subst hsz
  have hD := hD0.self (sz := s.heap.size)
  generalize hAe : va_A [(q_t, .inr (9, [.ref q_t_z, .ref q_t_old, .ref q_t_past, .int t_states, .ref q_t_kept, .int t_isKept, .ref q_t_text, .int t_length, .ref q_t_order, .ref q_t_told, .int t_spot, .int t_toldRows, .ref q_t_rowsTaken, .ref q_t_columnsTaken, .ref q_t_ways, .ref q_t_scaled, .ref q_t_rowFactors, .ref q_t_columnFactors, .ref q_t_rest, .ref q_t_diagonals, .ref q_t_weights])), (q_t_z, .inl (G.2 0, 50, .inl t_z)), (q_t_old, .inl (G.2 0, 50, .inl t_old)), (q_t_past, .inl (G.2 0, 200, .inl t_past))] s.heap.size = A at hD ⊢
  have hA : ∀ q : Nat, s.heap.size ≤ q → A q := fun q h => by rw [← hAe]; exact Or.inr h
  have hl := lv_entry ([.ref q_t, .int a1, .int a2]) (n := 4) (Nat.le_of_ble_eq_true rfl)
  rw [lg_entry_eq]
  refine k_X10_swapRows ⟨B.exec, B.bytes, hml, findClass_of_methodNamed B.named, atoms_spec (ws := wsX10_swapRows) B.pre⟩ G hK hA q_t q_t_z q_t_old q_t_past q_t_kept q_t_text q_t_order q_t_told q_t_rowsTaken q_t_columnsTaken q_t_ways q_t_scaled q_t_rowFactors q_t_columnFactors q_t_rest q_t_diagonals q_t_weights _ _ _ _ _ _ _ _ _ _ _ _ _ _ _ h ?_ _ _ _ hP hD va_S.rf hl
  intro H locs ls pc hd hP hD hS
  exact W.iret B.exec B.bytes B.returns (fun t ht hW => ⟨⟨r, (), rfl, rfl, by rw [ht]; exact hP, hD⟩, hS.F ht⟩) hS.2.2 hd B.notSynchronized
set_option maxRecDepth 20000 in
theorem wd_X10_swapColumns_1 : Cond.constant RX10 92 (-2000000001) ∈ wsX10_swapColumns := List.mem_of_getElem? (i := 1) (by decide +kernel)
set_option maxRecDepth 20000 in
theorem wd_X10_swapColumns_2 : Cond.fieldLink RX10 7 "PermanentDeskModel" "z" "[I" ∈ wsX10_swapColumns := List.mem_of_getElem? (i := 2) (by decide +kernel)
set_option maxRecDepth 20000 in
theorem wi_X10_swapColumns_X10 : ∀ w ∈ u_ws RX10 TX10 21, w ∈ wsX10_swapColumns := by decide +kernel
set_option maxRecDepth 20000 in
theorem wd_X10_swapColumns_3 : Cond.fieldLink RX10 13 "PermanentDeskModel" "old" "[I" ∈ wsX10_swapColumns := List.mem_of_getElem? (i := 3) (by decide +kernel)
def f_X10_swapColumns_L1 (x1 : Int32) (x2 : Int32) (t_old : Nat → Int32) : (Int32 × (Nat → Int32)) → Option ((Int32 × (Nat → Int32)) ⊕ (Nat → Int32))
  | (x3, t_z) =>
    if (7 : Int32) ≤ x3 then
      some (.inr t_z)
    else
      gd (okI (((7 : Int32) * x3) + x2) 50) (
      gd (okI (((7 : Int32) * x3) + x1) 50) (
      pl ((upd t_z (((7 : Int32) * x3) + x1).toNatClampNeg (t_old (((7 : Int32) * x3) + x2).toNatClampNeg)) : Nat → Int32) (fun t_z_12 =>
      gd (okI (((7 : Int32) * x3) + x1) 50) (
      gd (okI (((7 : Int32) * x3) + x2) 50) (
      pl ((upd t_z_12 (((7 : Int32) * x3) + x2).toNatClampNeg (t_old (((7 : Int32) * x3) + x1).toNatClampNeg)) : Nat → Int32) (fun t_z_15 =>
      pl ((x3 + (1 : Int32)) : Int32) (fun x3_16 =>
      some (.inl (x3_16, t_z_15)))))))))
def f_X10_swapColumns (t_states : Int32) (t_z : Nat → Int32) (t_old : Nat → Int32) (t_past : Nat → Int32) (a1 : Int32) (a2 : Int32) : Option (Int32 × Int32 × (Nat → Int32) × (Nat → Int32) × (Nat → Int32)) :=
  (f_X10_isLine t_z a1).bind (fun r_1 =>
  if r_1 = 0 then
    some ((-2000000001 : Int32), t_states, t_z, t_old, t_past)
  else
    (f_X10_isLine t_z a2).bind (fun r_4 =>
    if r_4 = 0 then
      some ((-2000000001 : Int32), t_states, t_z, t_old, t_past)
    else
      (f_X10_takeOld t_z t_old).bind (fun t_old_7 =>
      (lpN (f_X10_swapColumns_L1 a1 a2 t_old_7) FU ((0 : Int32), t_z)).bind (fun t_z_17 =>
      (f_X10_unlike t_states t_z_17 t_old_7 t_past).bind (fun (r_22, t_states_20, t_past_21) =>
      some (r_22, t_states_20, t_z_17, t_old_7, t_past_21))))))
set_option maxHeartbeats 4000000 in
set_option maxRecDepth 100000 in
theorem l_X10_swapColumns_1 {p : Program} {l : Launch} {e : Env} {s : State} {m : MethodId} {args : Array Value} {below : List Frame} {meth : Method} {c : Code} {Q : State → Prop} {A0 : Nat → Prop} {H0 : Heap} (C : CallFix p m c cX10_swapColumns 4 s args wsX10_swapColumns RX10) (G : GT) (hK : gK G s) (hA : ∀ q : Nat, H0.size ≤ q → A0 q) (q_t q_t_z q_t_old q_t_past q_t_kept q_t_text q_t_order q_t_told q_t_rowsTaken q_t_columnsTaken q_t_ways q_t_scaled q_t_rowFactors q_t_columnFactors q_t_rest q_t_diagonals q_t_weights : Nat) (x1 : Int32) (x2 : Int32) (t_states : Int32) (t_isKept : Int32) (t_length : Int32) (t_spot : Int32) (t_toldRows : Int32) (t_old : Nat → Int32) (t_past : Nat → Int32) (E_t_z : Nat → Int32) (K : ∀ (H : Heap) (locs : List Loc) (ls : Array Slot), va_P G.1 vwCl [(q_t, .inr (9, [.ref q_t_z, .ref q_t_old, .ref q_t_past, .int t_states, .ref q_t_kept, .int t_isKept, .ref q_t_text, .int t_length, .ref q_t_order, .ref q_t_told, .int t_spot, .int t_toldRows, .ref q_t_rowsTaken, .ref q_t_columnsTaken, .ref q_t_ways, .ref q_t_scaled, .ref q_t_rowFactors, .ref q_t_columnFactors, .ref q_t_rest, .ref q_t_diagonals, .ref q_t_weights])), (q_t_z, .inl (G.2 0, 50, .inl E_t_z)), (q_t_old, .inl (G.2 0, 50, .inl t_old)), (q_t_past, .inl (G.2 0, 200, .inl t_past))] H → va_D A0 [(q_t, .inr (9, [.ref q_t_z, .ref q_t_old, .ref q_t_past, .int t_states, .ref q_t_kept, .int t_isKept, .ref q_t_text, .int t_length, .ref q_t_order, .ref q_t_told, .int t_spot, .int t_toldRows, .ref q_t_rowsTaken, .ref q_t_columnsTaken, .ref q_t_ways, .ref q_t_scaled, .ref q_t_rowFactors, .ref q_t_columnFactors, .ref q_t_rest, .ref q_t_diagonals, .ref q_t_weights])), (q_t_z, .inl (G.2 0, 50, .inl E_t_z)), (q_t_old, .inl (G.2 0, 50, .inl t_old)), (q_t_past, .inl (G.2 0, 200, .inl t_past))] → va_S A0 H0 H locs → lv_has ls 4 [(0, .ref q_t)] → W p l e ({ frames := 3, cells := 0, slots := 0, locals := 68 } : Room) s m args below meth c H locs 0 0 Q (F0 m 81 ls [])) : ∀ (n : Nat) (x3 : Int32) (t_z : Nat → Int32), lpN (f_X10_swapColumns_L1 x1 x2 t_old) n (x3, t_z) = some E_t_z → ∀ (H : Heap) (locs : List Loc) (ls : Array Slot), va_P G.1 vwCl [(q_t, .inr (9, [.ref q_t_z, .ref q_t_old, .ref q_t_past, .int t_states, .ref q_t_kept, .int t_isKept, .ref q_t_text, .int t_length, .ref q_t_order, .ref q_t_told, .int t_spot, .int t_toldRows, .ref q_t_rowsTaken, .ref q_t_columnsTaken, .ref q_t_ways, .ref q_t_scaled, .ref q_t_rowFactors, .ref q_t_columnFactors, .ref q_t_rest, .ref q_t_diagonals, .ref q_t_weights])), (q_t_z, .inl (G.2 0, 50, .inl t_z)), (q_t_old, .inl (G.2 0, 50, .inl t_old)), (q_t_past, .inl (G.2 0, 200, .inl t_past))] H → va_D A0 [(q_t, .inr (9, [.ref q_t_z, .ref q_t_old, .ref q_t_past, .int t_states, .ref q_t_kept, .int t_isKept, .ref q_t_text, .int t_length, .ref q_t_order, .ref q_t_told, .int t_spot, .int t_toldRows, .ref q_t_rowsTaken, .ref q_t_columnsTaken, .ref q_t_ways, .ref q_t_scaled, .ref q_t_rowFactors, .ref q_t_columnFactors, .ref q_t_rest, .ref q_t_diagonals, .ref q_t_weights])), (q_t_z, .inl (G.2 0, 50, .inl t_z)), (q_t_old, .inl (G.2 0, 50, .inl t_old)), (q_t_past, .inl (G.2 0, 200, .inl t_past))] → va_S A0 H0 H locs → lv_has ls 4 [(0, .ref q_t), (1, .int x1), (2, .int x2), (3, .int x3)] → W p l e ({ frames := 3, cells := 0, slots := 0, locals := 68 } : Room) s m args below meth c H locs 0 0 Q (F0 m 25 ls []) := by
  obtain ⟨hx, hb, hml, hown, hts⟩ := C
  intro n
  induction n with
  | zero => intro x3 t_z h; exact absurd h (fun h => lp_0 h)
  | succ n ih =>
    intro x3 t_z h H locs ls hP hD hS hl
    obtain ⟨y, h, hk⟩ := lp_s h
    rw [f_X10_swapColumns_L1] at h
    refine lv_iload_n hx hb dX10_swapColumns_25 rfl (lv_at hl 3 rfl) ?_
    refine lv_bipush (v := 7) hx hb dX10_swapColumns_26 (by decide) ?_
    refine lv_icmp_ge (tgt := 81) hx hb dX10_swapColumns_28 (by decide) (fun c_9 => ?_) (fun c_9 => ?_)
    · replace h := it_t h c_9
      obtain rfl := sm1 h
      obtain rfl := sm1 hk
      exact K H locs ls hP hD hS (lv_sub hl [0] rfl)
    · replace h := it_f h c_9
      refine lv_aload_n hx hb dX10_swapColumns_31 rfl (lv_at hl 0 rfl) ?_
      refine va_get (D := G.1) (ci := 9) (v := .ref q_t_z) (C := RX10) (T := TX10) (N := 21) hx hb hts wi_X10_swapColumns_X10 hown hK hP 0 rfl rfl 0 (by decide) (hts _ wd_X10_swapColumns_2) (fun _ h9 => h9) rfl dX10_swapColumns_32 ?_
      refine lv_bipush (v := 7) hx hb dX10_swapColumns_35 (by decide) ?_
      refine lv_iload_n hx hb dX10_swapColumns_37 rfl (lv_at hl 3 rfl) ?_
      refine lv_imul hx hb dX10_swapColumns_38 ?_
      refine lv_iload_n hx hb dX10_swapColumns_39 rfl (lv_at hl 1 rfl) ?_
      refine lv_iadd hx hb dX10_swapColumns_40 ?_
      refine lv_aload_n hx hb dX10_swapColumns_41 rfl (lv_at hl 0 rfl) ?_
      refine va_get (D := G.1) (ci := 9) (v := .ref q_t_old) (C := RX10) (T := TX10) (N := 21) hx hb hts wi_X10_swapColumns_X10 hown hK hP 0 rfl rfl 1 (by decide) (hts _ wd_X10_swapColumns_3) (fun _ h9 => h9) rfl dX10_swapColumns_42 ?_
      refine lv_bipush (v := 7) hx hb dX10_swapColumns_45 (by decide) ?_
      refine lv_iload_n hx hb dX10_swapColumns_47 rfl (lv_at hl 3 rfl) ?_
      refine lv_imul hx hb dX10_swapColumns_48 ?_
      refine lv_iload_n hx hb dX10_swapColumns_49 rfl (lv_at hl 2 rfl) ?_
      refine lv_iadd hx hb dX10_swapColumns_50 ?_
      obtain ⟨g_10, h⟩ := gd_ok h
      refine va_iald (D := G.1) hx hb hK hP 2 0 rfl rfl g_10 dX10_swapColumns_51 ?_
      obtain ⟨g_11, h⟩ := gd_ok h
      obtain ⟨t_z_12, et_z_12, h⟩ := pl_ok h
      refine st_i (D := G.1) (wn := [(q_t, .inr (9, [.ref q_t_z, .ref q_t_old, .ref q_t_past, .int t_states, .ref q_t_kept, .int t_isKept, .ref q_t_text, .int t_length, .ref q_t_order, .ref q_t_told, .int t_spot, .int t_toldRows, .ref q_t_rowsTaken, .ref q_t_columnsTaken, .ref q_t_ways, .ref q_t_scaled, .ref q_t_rowFactors, .ref q_t_columnFactors, .ref q_t_rest, .ref q_t_diagonals, .ref q_t_weights])), (q_t_z, .inl (G.2 0, 50, .inl t_z_12)), (q_t_old, .inl (G.2 0, 50, .inl t_old)), (q_t_past, .inl (G.2 0, 200, .inl t_past))]) hx hb hK hP hD hS 1 0 rfl rfl g_11 dX10_swapColumns_52 et_z_12 rfl (fun H locs hP hD hS => ?_)
      refine lv_aload_n hx hb dX10_swapColumns_53 rfl (lv_at hl 0 rfl) ?_
      refine va_get (D := G.1) (ci := 9) (v := .ref q_t_z) (C := RX10) (T := TX10) (N := 21) hx hb hts wi_X10_swapColumns_X10 hown hK hP 0 rfl rfl 0 (by decide) (hts _ wd_X10_swapColumns_2) (fun _ h9 => h9) rfl dX10_swapColumns_54 ?_
      refine lv_bipush (v := 7) hx hb dX10_swapColumns_57 (by decide) ?_
      refine lv_iload_n hx hb dX10_swapColumns_59 rfl (lv_at hl 3 rfl) ?_
      refine lv_imul hx hb dX10_swapColumns_60 ?_
      refine lv_iload_n hx hb dX10_swapColumns_61 rfl (lv_at hl 2 rfl) ?_
      refine lv_iadd hx hb dX10_swapColumns_62 ?_
      refine lv_aload_n hx hb dX10_swapColumns_63 rfl (lv_at hl 0 rfl) ?_
      refine va_get (D := G.1) (ci := 9) (v := .ref q_t_old) (C := RX10) (T := TX10) (N := 21) hx hb hts wi_X10_swapColumns_X10 hown hK hP 0 rfl rfl 1 (by decide) (hts _ wd_X10_swapColumns_3) (fun _ h9 => h9) rfl dX10_swapColumns_64 ?_
      refine lv_bipush (v := 7) hx hb dX10_swapColumns_67 (by decide) ?_
      refine lv_iload_n hx hb dX10_swapColumns_69 rfl (lv_at hl 3 rfl) ?_
      refine lv_imul hx hb dX10_swapColumns_70 ?_
      refine lv_iload_n hx hb dX10_swapColumns_71 rfl (lv_at hl 1 rfl) ?_
      refine lv_iadd hx hb dX10_swapColumns_72 ?_
      obtain ⟨g_13, h⟩ := gd_ok h
      refine va_iald (D := G.1) hx hb hK hP 2 0 rfl rfl g_13 dX10_swapColumns_73 ?_
      obtain ⟨g_14, h⟩ := gd_ok h
      obtain ⟨t_z_15, et_z_15, h⟩ := pl_ok h
      refine st_i (D := G.1) (wn := [(q_t, .inr (9, [.ref q_t_z, .ref q_t_old, .ref q_t_past, .int t_states, .ref q_t_kept, .int t_isKept, .ref q_t_text, .int t_length, .ref q_t_order, .ref q_t_told, .int t_spot, .int t_toldRows, .ref q_t_rowsTaken, .ref q_t_columnsTaken, .ref q_t_ways, .ref q_t_scaled, .ref q_t_rowFactors, .ref q_t_columnFactors, .ref q_t_rest, .ref q_t_diagonals, .ref q_t_weights])), (q_t_z, .inl (G.2 0, 50, .inl t_z_15)), (q_t_old, .inl (G.2 0, 50, .inl t_old)), (q_t_past, .inl (G.2 0, 200, .inl t_past))]) hx hb hK hP hD hS 1 0 rfl rfl g_14 dX10_swapColumns_74 et_z_15 rfl (fun H locs hP hD hS => ?_)
      obtain ⟨x3_16, ex3_16, h⟩ := pl_ok h
      refine lv_iinc (v := x3_16) (lv' := [(3, .int x3_16), (0, .ref q_t), (1, .int x1), (2, .int x2)]) hx hb dX10_swapColumns_75 hl (k := 3) rfl (by rw [ex3_16]; rfl) (by decide) rfl (fun ls hl => ?_)
      refine lv_goto (tgt := 25) hx hb dX10_swapColumns_78 (by decide) ?_
      obtain rfl := sm1 h
      exact ih x3_16 t_z_15 hk H locs ls hP hD hS (lv_sub hl [1, 2, 3, 0] rfl)
set_option maxHeartbeats 4000000 in
set_option maxRecDepth 100000 in
theorem k_X10_swapColumns {p : Program} {l : Launch} {e : Env} {s : State} {m : MethodId} {args : Array Value} {below : List Frame} {meth : Method} {c : Code} {Q : State → Prop} {A0 : Nat → Prop} {H0 : Heap} (C : CallFix p m c cX10_swapColumns 4 s args wsX10_swapColumns RX10) (G : GT) (hK : gK G s) (hA : ∀ q : Nat, H0.size ≤ q → A0 q) (q_t q_t_z q_t_old q_t_past q_t_kept q_t_text q_t_order q_t_told q_t_rowsTaken q_t_columnsTaken q_t_ways q_t_scaled q_t_rowFactors q_t_columnFactors q_t_rest q_t_diagonals q_t_weights : Nat) (t_states : Int32) (t_isKept : Int32) (t_length : Int32) (t_spot : Int32) (t_toldRows : Int32) (t_z : Nat → Int32) (t_old : Nat → Int32) (t_past : Nat → Int32) (a1 : Int32) (a2 : Int32) (r : Int32) (o_t_states : Int32) (o_t_z : Nat → Int32) (o_t_old : Nat → Int32) (o_t_past : Nat → Int32) (h : f_X10_swapColumns t_states t_z t_old t_past a1 a2 = some (r, o_t_states, o_t_z, o_t_old, o_t_past)) (KR : ∀ (H : Heap) (locs : List Loc) (ls : Array Slot) (pc : Nat), decode cX10_swapColumns pc = .ok (.ireturn, 1) → va_P G.1 vwCl [(q_t, .inr (9, [.ref q_t_z, .ref q_t_old, .ref q_t_past, .int o_t_states, .ref q_t_kept, .int t_isKept, .ref q_t_text, .int t_length, .ref q_t_order, .ref q_t_told, .int t_spot, .int t_toldRows, .ref q_t_rowsTaken, .ref q_t_columnsTaken, .ref q_t_ways, .ref q_t_scaled, .ref q_t_rowFactors, .ref q_t_columnFactors, .ref q_t_rest, .ref q_t_diagonals, .ref q_t_weights])), (q_t_z, .inl (G.2 0, 50, .inl o_t_z)), (q_t_old, .inl (G.2 0, 50, .inl o_t_old)), (q_t_past, .inl (G.2 0, 200, .inl o_t_past))] H → va_D A0 [(q_t, .inr (9, [.ref q_t_z, .ref q_t_old, .ref q_t_past, .int o_t_states, .ref q_t_kept, .int t_isKept, .ref q_t_text, .int t_length, .ref q_t_order, .ref q_t_told, .int t_spot, .int t_toldRows, .ref q_t_rowsTaken, .ref q_t_columnsTaken, .ref q_t_ways, .ref q_t_scaled, .ref q_t_rowFactors, .ref q_t_columnFactors, .ref q_t_rest, .ref q_t_diagonals, .ref q_t_weights])), (q_t_z, .inl (G.2 0, 50, .inl o_t_z)), (q_t_old, .inl (G.2 0, 50, .inl o_t_old)), (q_t_past, .inl (G.2 0, 200, .inl o_t_past))] → va_S A0 H0 H locs → W p l e ({ frames := 3, cells := 0, slots := 0, locals := 68 } : Room) s m args below meth c H locs 0 0 Q (F0 m pc ls [.int r])) : ∀ (H : Heap) (locs : List Loc) (ls : Array Slot), va_P G.1 vwCl [(q_t, .inr (9, [.ref q_t_z, .ref q_t_old, .ref q_t_past, .int t_states, .ref q_t_kept, .int t_isKept, .ref q_t_text, .int t_length, .ref q_t_order, .ref q_t_told, .int t_spot, .int t_toldRows, .ref q_t_rowsTaken, .ref q_t_columnsTaken, .ref q_t_ways, .ref q_t_scaled, .ref q_t_rowFactors, .ref q_t_columnFactors, .ref q_t_rest, .ref q_t_diagonals, .ref q_t_weights])), (q_t_z, .inl (G.2 0, 50, .inl t_z)), (q_t_old, .inl (G.2 0, 50, .inl t_old)), (q_t_past, .inl (G.2 0, 200, .inl t_past))] H → va_D A0 [(q_t, .inr (9, [.ref q_t_z, .ref q_t_old, .ref q_t_past, .int t_states, .ref q_t_kept, .int t_isKept, .ref q_t_text, .int t_length, .ref q_t_order, .ref q_t_told, .int t_spot, .int t_toldRows, .ref q_t_rowsTaken, .ref q_t_columnsTaken, .ref q_t_ways, .ref q_t_scaled, .ref q_t_rowFactors, .ref q_t_columnFactors, .ref q_t_rest, .ref q_t_diagonals, .ref q_t_weights])), (q_t_z, .inl (G.2 0, 50, .inl t_z)), (q_t_old, .inl (G.2 0, 50, .inl t_old)), (q_t_past, .inl (G.2 0, 200, .inl t_past))] → va_S A0 H0 H locs → lv_has ls 4 [(0, .ref q_t), (1, .int a1), (2, .int a2)] → W p l e ({ frames := 3, cells := 0, slots := 0, locals := 68 } : Room) s m args below meth c H locs 0 0 Q (F0 m 0 ls []) := by
  obtain ⟨hx, hb, hml, hown, hts⟩ := C
  intro H locs ls hP hD hS hl
  rw [f_X10_swapColumns] at h
  refine lv_aload_n hx hb dX10_swapColumns_0 rfl (lv_at hl 0 rfl) ?_
  refine lv_iload_n hx hb dX10_swapColumns_1 rfl (lv_at hl 1 rfl) ?_
  obtain ⟨r_1, hf_2, h⟩ := bd_ok h
  refine ck_Vi (rest := []) (wn := [(q_t, .inr (9, [.ref q_t_z, .ref q_t_old, .ref q_t_past, .int t_states, .ref q_t_kept, .int t_isKept, .ref q_t_text, .int t_length, .ref q_t_order, .ref q_t_told, .int t_spot, .int t_toldRows, .ref q_t_rowsTaken, .ref q_t_columnsTaken, .ref q_t_ways, .ref q_t_scaled, .ref q_t_rowFactors, .ref q_t_columnFactors, .ref q_t_rest, .ref q_t_diagonals, .ref q_t_weights])), (q_t_z, .inl (G.2 0, 50, .inl t_z)), (q_t_old, .inl (G.2 0, 50, .inl t_old)), (q_t_past, .inl (G.2 0, 200, .inl t_past))]) ⟨hx, hb, hml, hown, hts⟩ hK hP hD hS hA [0, 1] [2, 3] [2, 3, 0, 1] (c_X10_isLine l G q_t q_t_z q_t_old q_t_past q_t_kept q_t_text q_t_order q_t_told q_t_rowsTaken q_t_columnsTaken q_t_ways q_t_scaled q_t_rowFactors q_t_columnFactors q_t_rest q_t_diagonals q_t_weights _ t_states t_isKept t_length t_spot t_toldRows t_z a1 _ hf_2) (cwV 1 hts gX10_swapColumns_X10_isLine rfl rfl rfl (by decide +kernel) ⟨Nat.le_of_ble_eq_true rfl, Nat.le_of_ble_eq_true rfl⟩) rfl rfl rfl rfl rfl rfl (by decide) rfl rfl rfl hl.1 rfl (Nat.le_of_ble_eq_true rfl) dX10_swapColumns_2 ⟨Nat.zero_le _, Nat.zero_le _⟩ (fun H locs hP hD hS => ?_)
  refine lv_if_eq (tgt := 16) hx hb dX10_swapColumns_5 (by decide) (fun c_3 => ?_) (fun c_3 => ?_)
  · replace h := it_t h c_3
    refine lv_ldc (v := -2000000001) hx hb hown (hts _ wd_X10_swapColumns_1) dX10_swapColumns_16 ?_
    obtain ⟨rfl, rfl, rfl, rfl, rfl⟩ := sm5 h
    exact KR H locs ls 18 dX10_swapColumns_18 hP hD hS
  · replace h := it_f h c_3
    refine lv_aload_n hx hb dX10_swapColumns_8 rfl (lv_at hl 0 rfl) ?_
    refine lv_iload_n hx hb dX10_swapColumns_9 rfl (lv_at hl 2 rfl) ?_
    obtain ⟨r_4, hf_5, h⟩ := bd_ok h
    refine ck_Vi (rest := []) (wn := [(q_t, .inr (9, [.ref q_t_z, .ref q_t_old, .ref q_t_past, .int t_states, .ref q_t_kept, .int t_isKept, .ref q_t_text, .int t_length, .ref q_t_order, .ref q_t_told, .int t_spot, .int t_toldRows, .ref q_t_rowsTaken, .ref q_t_columnsTaken, .ref q_t_ways, .ref q_t_scaled, .ref q_t_rowFactors, .ref q_t_columnFactors, .ref q_t_rest, .ref q_t_diagonals, .ref q_t_weights])), (q_t_z, .inl (G.2 0, 50, .inl t_z)), (q_t_old, .inl (G.2 0, 50, .inl t_old)), (q_t_past, .inl (G.2 0, 200, .inl t_past))]) ⟨hx, hb, hml, hown, hts⟩ hK hP hD hS hA [0, 1] [2, 3] [2, 3, 0, 1] (c_X10_isLine l G q_t q_t_z q_t_old q_t_past q_t_kept q_t_text q_t_order q_t_told q_t_rowsTaken q_t_columnsTaken q_t_ways q_t_scaled q_t_rowFactors q_t_columnFactors q_t_rest q_t_diagonals q_t_weights _ t_states t_isKept t_length t_spot t_toldRows t_z a2 _ hf_5) (cwV 1 hts gX10_swapColumns_X10_isLine rfl rfl rfl (by decide +kernel) ⟨Nat.le_of_ble_eq_true rfl, Nat.le_of_ble_eq_true rfl⟩) rfl rfl rfl rfl rfl rfl (by decide) rfl rfl rfl hl.1 rfl (Nat.le_of_ble_eq_true rfl) dX10_swapColumns_10 ⟨Nat.zero_le _, Nat.zero_le _⟩ (fun H locs hP hD hS => ?_)
    refine lv_if_ne (tgt := 19) hx hb dX10_swapColumns_13 (by decide) (fun c_6 => ?_) (fun c_6 => ?_)
    · replace h := it_f h c_6
      refine lv_aload_n hx hb dX10_swapColumns_19 rfl (lv_at hl 0 rfl) ?_
      obtain ⟨t_old_7, hf_8, h⟩ := bd_ok h
      refine ck_Vv (rest := []) (wn := [(q_t, .inr (9, [.ref q_t_z, .ref q_t_old, .ref q_t_past, .int t_states, .ref q_t_kept, .int t_isKept, .ref q_t_text, .int t_length, .ref q_t_order, .ref q_t_told, .int t_spot, .int t_toldRows, .ref q_t_rowsTaken, .ref q_t_columnsTaken, .ref q_t_ways, .ref q_t_scaled, .ref q_t_rowFactors, .ref q_t_columnFactors, .ref q_t_rest, .ref q_t_diagonals, .ref q_t_weights])), (q_t_z, .inl (G.2 0, 50, .inl t_z)), (q_t_old, .inl (G.2 0, 50, .inl t_old_7)), (q_t_past, .inl (G.2 0, 200, .inl t_past))]) ⟨hx, hb, hml, hown, hts⟩ hK hP hD hS hA [0, 1, 2] [3] [1, 2, 3, 0] (c_X10_takeOld l G q_t q_t_z q_t_old q_t_past q_t_kept q_t_text q_t_order q_t_told q_t_rowsTaken q_t_columnsTaken q_t_ways q_t_scaled q_t_rowFactors q_t_columnFactors q_t_rest q_t_diagonals q_t_weights _ t_states t_isKept t_length t_spot t_toldRows t_z t_old _ hf_8) (cwV 0 hts gX10_swapColumns_X10_takeOld rfl rfl rfl (by decide +kernel) ⟨Nat.le_of_ble_eq_true rfl, Nat.le_of_ble_eq_true rfl⟩) rfl rfl rfl rfl rfl rfl (by decide) rfl rfl rfl hl.1 rfl (Nat.le_of_ble_eq_true rfl) dX10_swapColumns_20 ⟨Nat.zero_le _, Nat.zero_le _⟩ (fun H locs hP hD hS => ?_)
      refine lv_iconst (v := 0) hx hb dX10_swapColumns_23 (by decide) ?_
      refine lv_istore_n (lv' := [(3, .int (0 : Int32)), (0, .ref q_t), (1, .int a1), (2, .int a2)]) hx hb dX10_swapColumns_24 rfl hl (by decide) rfl (fun ls hl => ?_)
      obtain ⟨t_z_17, hz_19, h⟩ := bd_ok h
      refine l_X10_swapColumns_1 ⟨hx, hb, hml, hown, hts⟩ G hK hA q_t q_t_z q_t_old q_t_past q_t_kept q_t_text q_t_order q_t_told q_t_rowsTaken q_t_columnsTaken q_t_ways q_t_scaled q_t_rowFactors q_t_columnFactors q_t_rest q_t_diagonals q_t_weights a1 a2 t_states t_isKept t_length t_spot t_toldRows t_old_7 t_past t_z_17 ?_ FU (0 : Int32) t_z hz_19 H locs ls hP hD hS (lv_sub hl [1, 2, 3, 0] rfl)
      intro H locs ls hP hD hS hl
      refine lv_aload_n hx hb dX10_swapColumns_81 rfl (lv_at hl 0 rfl) ?_
      obtain ⟨⟨r_22, t_states_20, t_past_21⟩, hf_23, h⟩ := bd_ok h
      refine ck_Vi (rest := []) (wn := [(q_t, .inr (9, [.ref q_t_z, .ref q_t_old, .ref q_t_past, .int t_states_20, .ref q_t_kept, .int t_isKept, .ref q_t_text, .int t_length, .ref q_t_order, .ref q_t_told, .int t_spot, .int t_toldRows, .ref q_t_rowsTaken, .ref q_t_columnsTaken, .ref q_t_ways, .ref q_t_scaled, .ref q_t_rowFactors, .ref q_t_columnFactors, .ref q_t_rest, .ref q_t_diagonals, .ref q_t_weights])), (q_t_z, .inl (G.2 0, 50, .inl t_z_17)), (q_t_old, .inl (G.2 0, 50, .inl t_old_7)), (q_t_past, .inl (G.2 0, 200, .inl t_past_21))]) ⟨hx, hb, hml, hown, hts⟩ hK hP hD hS hA [0, 1, 2, 3] [] [0, 1, 2, 3] (c_X10_unlike l G q_t q_t_z q_t_old q_t_past q_t_kept q_t_text q_t_order q_t_told q_t_rowsTaken q_t_columnsTaken q_t_ways q_t_scaled q_t_rowFactors q_t_columnFactors q_t_rest q_t_diagonals q_t_weights _ t_states t_isKept t_length t_spot t_toldRows t_z_17 t_old_7 t_past _ _ _ hf_23) (cwV 0 hts gX10_swapColumns_X10_unlike rfl rfl rfl (by decide +kernel) ⟨Nat.le_of_ble_eq_true rfl, Nat.le_of_ble_eq_true rfl⟩) rfl rfl rfl rfl rfl rfl (by decide) rfl rfl rfl hl.1 rfl (Nat.le_of_ble_eq_true rfl) dX10_swapColumns_82 ⟨Nat.zero_le _, Nat.zero_le _⟩ (fun H locs hP hD hS => ?_)
      obtain ⟨rfl, rfl, rfl, rfl, rfl⟩ := sm5 h
      exact KR H locs ls 85 dX10_swapColumns_85 hP hD hS
    · replace h := it_t h c_6
      refine lv_ldc (v := -2000000001) hx hb hown (hts _ wd_X10_swapColumns_1) dX10_swapColumns_16 ?_
      obtain ⟨rfl, rfl, rfl, rfl, rfl⟩ := sm5 h
      exact KR H locs ls 18 dX10_swapColumns_18 hP hD hS
set_option maxHeartbeats 4000000 in
set_option maxRecDepth 100000 in
theorem c_X10_swapColumns (l : Launch) (G : GT) (q_t q_t_z q_t_old q_t_past q_t_kept q_t_text q_t_order q_t_told q_t_rowsTaken q_t_columnsTaken q_t_ways q_t_scaled q_t_rowFactors q_t_columnFactors q_t_rest q_t_diagonals q_t_weights : Nat) (sz : Nat) (t_states : Int32) (t_isKept : Int32) (t_length : Int32) (t_spot : Int32) (t_toldRows : Int32) (t_z : Nat → Int32) (t_old : Nat → Int32) (t_past : Nat → Int32) (a1 : Int32) (a2 : Int32) (r : Int32) (o_t_states : Int32) (o_t_z : Nat → Int32) (o_t_old : Nat → Int32) (o_t_past : Nat → Int32) (h : f_X10_swapColumns t_states t_z t_old t_past a1 a2 = some (r, o_t_states, o_t_z, o_t_old, o_t_past)) : Met l yX10_swapColumns wsX10_swapColumns ({ frames := 3, cells := 0, slots := 0, locals := 68 } : Room) (va_Pc [.ref q_t, .int a1, .int a2] (pcW G [(q_t, .inr (9, [.ref q_t_z, .ref q_t_old, .ref q_t_past, .int t_states, .ref q_t_kept, .int t_isKept, .ref q_t_text, .int t_length, .ref q_t_order, .ref q_t_told, .int t_spot, .int t_toldRows, .ref q_t_rowsTaken, .ref q_t_columnsTaken, .ref q_t_ways, .ref q_t_scaled, .ref q_t_rowFactors, .ref q_t_columnFactors, .ref q_t_rest, .ref q_t_diagonals, .ref q_t_weights])), (q_t_z, .inl (G.2 0, 50, .inl t_z)), (q_t_old, .inl (G.2 0, 50, .inl t_old)), (q_t_past, .inl (G.2 0, 200, .inl t_past))] sz)) (va_Qi (fun r9 (_ : Unit) => r9 = r) (fun _ t => atW G (va_A [(q_t, .inr (9, [.ref q_t_z, .ref q_t_old, .ref q_t_past, .int t_states, .ref q_t_kept, .int t_isKept, .ref q_t_text, .int t_length, .ref q_t_order, .ref q_t_told, .int t_spot, .int t_toldRows, .ref q_t_rowsTaken, .ref q_t_columnsTaken, .ref q_t_ways, .ref q_t_scaled, .ref q_t_rowFactors, .ref q_t_columnFactors, .ref q_t_rest, .ref q_t_diagonals, .ref q_t_weights])), (q_t_z, .inl (G.2 0, 50, .inl t_z)), (q_t_old, .inl (G.2 0, 50, .inl t_old)), (q_t_past, .inl (G.2 0, 200, .inl t_past))] sz) [(q_t, .inr (9, [.ref q_t_z, .ref q_t_old, .ref q_t_past, .int o_t_states, .ref q_t_kept, .int t_isKept, .ref q_t_text, .int t_length, .ref q_t_order, .ref q_t_told, .int t_spot, .int t_toldRows, .ref q_t_rowsTaken, .ref q_t_columnsTaken, .ref q_t_ways, .ref q_t_scaled, .ref q_t_rowFactors, .ref q_t_columnFactors, .ref q_t_rest, .ref q_t_diagonals, .ref q_t_weights])), (q_t_z, .inl (G.2 0, 50, .inl o_t_z)), (q_t_old, .inl (G.2 0, 50, .inl o_t_old)), (q_t_past, .inl (G.2 0, 200, .inl o_t_past))] t) (va_A [(q_t, .inr (9, [.ref q_t_z, .ref q_t_old, .ref q_t_past, .int t_states, .ref q_t_kept, .int t_isKept, .ref q_t_text, .int t_length, .ref q_t_order, .ref q_t_told, .int t_spot, .int t_toldRows, .ref q_t_rowsTaken, .ref q_t_columnsTaken, .ref q_t_ways, .ref q_t_scaled, .ref q_t_rowFactors, .ref q_t_columnFactors, .ref q_t_rest, .ref q_t_diagonals, .ref q_t_weights])), (q_t_z, .inl (G.2 0, 50, .inl t_z)), (q_t_old, .inl (G.2 0, 50, .inl t_old)), (q_t_past, .inl (G.2 0, 200, .inl t_past))] sz)) 0 0 (va_A [(q_t, .inr (9, [.ref q_t_z, .ref q_t_old, .ref q_t_past, .int t_states, .ref q_t_kept, .int t_isKept, .ref q_t_text, .int t_length, .ref q_t_order, .ref q_t_told, .int t_spot, .int t_toldRows, .ref q_t_rowsTaken, .ref q_t_columnsTaken, .ref q_t_ways, .ref q_t_scaled, .ref q_t_rowFactors, .ref q_t_columnFactors, .ref q_t_rest, .ref q_t_diagonals, .ref q_t_weights])), (q_t_z, .inl (G.2 0, 50, .inl t_z)), (q_t_old, .inl (G.2 0, 50, .inl t_old)), (q_t_past, .inl (G.2 0, 200, .inl t_past))] sz) := by
  refine Met.ofW (cc := cX10_swapColumns) (maxL := 4) (ret := (some .int)) (by decide) rfl ?_
  intro p e s m args below meth c s₁ B hml hv
  obtain ⟨rfl, hsz, hP, hK, hD0⟩ := hv
  subst hsz
  have hD := hD0.self (sz := s.heap.size)
  generalize hAe : va_A [(q_t, .inr (9, [.ref q_t_z, .ref q_t_old, .ref q_t_past, .int t_states, .ref q_t_kept, .int t_isKept, .ref q_t_text, .int t_length, .ref q_t_order, .ref q_t_told, .int t_spot, .int t_toldRows, .ref q_t_rowsTaken, .ref q_t_columnsTaken, .ref q_t_ways, .ref q_t_scaled, .ref q_t_rowFactors, .ref q_t_columnFactors, .ref q_t_rest, .ref q_t_diagonals, .ref q_t_weights])), (q_t_z, .inl (G.2 0, 50, .inl t_z)), (q_t_old, .inl (G.2 0, 50, .inl t_old)), (q_t_past, .inl (G.2 0, 200, .inl t_past))] s.heap.size = A at hD ⊢
  have hA : ∀ q : Nat, s.heap.size ≤ q → A q := fun q h => by rw [← hAe]; exact Or.inr h
  have hl := lv_entry ([.ref q_t, .int a1, .int a2]) (n := 4) (Nat.le_of_ble_eq_true rfl)
  rw [lg_entry_eq]
  refine k_X10_swapColumns ⟨B.exec, B.bytes, hml, findClass_of_methodNamed B.named, atoms_spec (ws := wsX10_swapColumns) B.pre⟩ G hK hA q_t q_t_z q_t_old q_t_past q_t_kept q_t_text q_t_order q_t_told q_t_rowsTaken q_t_columnsTaken q_t_ways q_t_scaled q_t_rowFactors q_t_columnFactors q_t_rest q_t_diagonals q_t_weights _ _ _ _ _ _ _ _ _ _ _ _ _ _ _ h ?_ _ _ _ hP hD va_S.rf hl
  intro H locs ls pc hd hP hD hS
  exact W.iret B.exec B.bytes B.returns (fun t ht hW => ⟨⟨r, (), rfl, rfl, by rw [ht]; exact hP, hD⟩, hS.F ht⟩) hS.2.2 hd B.notSynchronized
