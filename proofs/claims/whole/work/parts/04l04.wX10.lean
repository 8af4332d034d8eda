set_option maxRecDepth 20000 in
theorem wd_X10_readEntry_1 : Cond.fieldLink RX10 22 "PermanentDeskModel" "text" "[I" ∈ wsX10_readEntry := List.mem_of_getElem? (i := 1) (by decide +kernel)
set_option maxRecDepth 20000 in
theorem wi_X10_readEntry_X10 : ∀ w ∈ u_ws RX10 TX10 21, w ∈ wsX10_readEntry := by decide +kernel
set_option maxRecDepth 20000 in
theorem wd_X10_readEntry_2 : Cond.fieldLink RX10 116 "PermanentDeskModel" "spot" "I" ∈ wsX10_readEntry := List.mem_of_getElem? (i := 2) (by decide +kernel)
set_option maxRecDepth 20000 in
theorem wd_X10_readEntry_3 : Cond.fieldLink RX10 28 "PermanentDeskModel" "told" "[I" ∈ wsX10_readEntry := List.mem_of_getElem? (i := 3) (by decide +kernel)
def f_X10_readEntry (t_length : Int32) (t_spot : Int32) (t_text : Nat → Int32) (t_told : Nat → Int32) (a1 : Int32) : Option (Int32 × Int32 × (Nat → Int32)) :=
  (f_X10_takes t_length t_spot t_text (45 : Int32)).bind (fun (r_2, t_spot_1) =>
  Option.bind (
    if r_2 = 0 then
      some (48 : Int32)
    else
      some (49 : Int32)) (fun y_5 =>
  (f_X10_sees t_length t_spot_1 t_text y_5 (57 : Int32)).bind (fun r_6 =>
  if r_6 = 0 then
    some ((0 : Int32), t_spot_1, t_told)
  else
    gd (okI t_spot_1 100) (
    pl (((t_text t_spot_1.toNatClampNeg) - (48 : Int32)) : Int32) (fun x3_10 =>
    pl ((t_spot_1 + (1 : Int32)) : Int32) (fun t_spot_11 =>
    Option.bind (
      if x3_10 ≤ 0 then
        some (x3_10, t_spot_11)
      else
        (f_X10_sees t_length t_spot_11 t_text (48 : Int32) (57 : Int32)).bind (fun r_15 =>
        if r_15 = 0 then
          some (x3_10, t_spot_11)
        else
          gd (okI t_spot_11 100) (
          if (20 : Int32) < ((((10 : Int32) * x3_10) + (t_text t_spot_11.toNatClampNeg)) - (48 : Int32)) then
            some (x3_10, t_spot_11)
          else
            gd (okI t_spot_11 100) (
            pl (((((10 : Int32) * x3_10) + (t_text t_spot_11.toNatClampNeg)) - (48 : Int32)) : Int32) (fun x3_21 =>
            pl ((t_spot_11 + (1 : Int32)) : Int32) (fun t_spot_22 =>
            some (x3_21, t_spot_22))))))) (fun (x3_13, t_spot_14) =>
    if r_2 = 0 then
      gd (okI a1 49) (
      pl ((upd t_told a1.toNatClampNeg x3_13) : Nat → Int32) (fun t_told_25 =>
      some ((1 : Int32), t_spot_14, t_told_25)))
    else
      gd (okI a1 49) (
      pl ((upd t_told a1.toNatClampNeg (-x3_13)) : Nat → Int32) (fun t_told_27 =>
      some ((1 : Int32), t_spot_14, t_told_27))))))))))
set_option maxHeartbeats 4000000 in
set_option maxRecDepth 100000 in
theorem k_X10_readEntry {p : Program} {l : Launch} {e : Env} {s : State} {m : MethodId} {args : Array Value} {below : List Frame} {meth : Method} {c : Code} {Q : State → Prop} {A0 : Nat → Prop} {H0 : Heap} (C : CallFix p m c cX10_readEntry 4 s args wsX10_readEntry RX10) (G : GT) (hK : gK G s) (hA : ∀ q : Nat, H0.size ≤ q → A0 q) (q_t q_t_z q_t_old q_t_past q_t_kept q_t_text q_t_order q_t_told q_t_rowsTaken q_t_columnsTaken q_t_ways q_t_scaled q_t_rowFactors q_t_columnFactors q_t_rest q_t_diagonals q_t_weights : Nat) (t_states : Int32) (t_isKept : Int32) (t_length : Int32) (t_spot : Int32) (t_toldRows : Int32) (t_text : Nat → Int32) (t_told : Nat → Int32) (a1 : Int32) (r : Int32) (o_t_spot : Int32) (o_t_told : Nat → Int32) (h : f_X10_readEntry t_length t_spot t_text t_told a1 = some (r, o_t_spot, o_t_told)) (KR : ∀ (H : Heap) (locs : List Loc) (ls : Array Slot) (pc : Nat), decode cX10_readEntry pc = .ok (.ireturn, 1) → (r = 0 ∨ r = 1) → va_P G.1 vwCl [(q_t, .inr (9, [.ref q_t_z, .ref q_t_old, .ref q_t_past, .int t_states, .ref q_t_kept, .int t_isKept, .ref q_t_text, .int t_length, .ref q_t_order, .ref q_t_told, .int o_t_spot, .int t_toldRows, .ref q_t_rowsTaken, .ref q_t_columnsTaken, .ref q_t_ways, .ref q_t_scaled, .ref q_t_rowFactors, .ref q_t_columnFactors, .ref q_t_rest, .ref q_t_diagonals, .ref q_t_weights])), (q_t_text, .inl (G.2 0, 100, .inl t_text)), (q_t_told, .inl (G.2 0, 49, .inl o_t_told))] H → va_D A0 [(q_t, .inr (9, [.ref q_t_z, .ref q_t_old, .ref q_t_past, .int t_states, .ref q_t_kept, .int t_isKept, .ref q_t_text, .int t_length, .ref q_t_order, .ref q_t_told, .int o_t_spot, .int t_toldRows, .ref q_t_rowsTaken, .ref q_t_columnsTaken, .ref q_t_ways, .ref q_t_scaled, .ref q_t_rowFactors, .ref q_t_columnFactors, .ref q_t_rest, .ref q_t_diagonals, .ref q_t_weights])), (q_t_text, .inl (G.2 0, 100, .inl t_text)), (q_t_told, .inl (G.2 0, 49, .inl o_t_told))] → va_S A0 H0 H locs → W p l e ({ frames := 3, cells := 0, slots := 0, locals := 66 } : Room) s m args below meth c H locs 0 0 Q (F0 m pc ls [.int r])) : ∀ (H : Heap) (locs : List Loc) (ls : Array Slot), va_P G.1 vwCl [(q_t, .inr (9, [.ref q_t_z, .ref q_t_old, .ref q_t_past, .int t_states, .ref q_t_kept, .int t_isKept, .ref q_t_text, .int t_length, .ref q_t_order, .ref q_t_told, .int t_spot, .int t_toldRows, .ref q_t_rowsTaken, .ref q_t_columnsTaken, .ref q_t_ways, .ref q_t_scaled, .ref q_t_rowFactors, .ref q_t_columnFactors, .ref q_t_rest, .ref q_t_diagonals, .ref q_t_weights])), (q_t_text, .inl (G.2 0, 100, .inl t_text)), (q_t_told, .inl (G.2 0, 49, .inl t_told))] H → va_D A0 [(q_t, .inr (9, [.ref q_t_z, .ref q_t_old, .ref q_t_past, .int t_states, .ref q_t_kept, .int t_isKept, .ref q_t_text, .int t_length, .ref q_t_order, .ref q_t_told, .int t_spot, .int t_toldRows, .ref q_t_rowsTaken, .ref q_t_columnsTaken, .ref q_t_ways, .ref q_t_scaled, .ref q_t_rowFactors, .ref q_t_columnFactors, .ref q_t_rest, .ref q_t_diagonals, .ref q_t_weights])), (q_t_text, .inl (G.2 0, 100, .inl t_text)), (q_t_told, .inl (G.2 0, 49, .inl t_told))] → va_S A0 H0 H locs → lv_has ls 4 [(0, .ref q_t), (1, .int a1)] → W p l e ({ frames := 3, cells := 0, slots := 0, locals := 66 } : Room) s m args below meth c H locs 0 0 Q (F0 m 0 ls []) := by
  obtain ⟨hx, hb, hml, hown, hts⟩ := C
  intro H locs ls hP hD hS hl
  rw [f_X10_readEntry] at h
  refine lv_aload_n hx hb dX10_readEntry_0 rfl (lv_at hl 0 rfl) ?_
  refine lv_bipush (v := 45) hx hb dX10_readEntry_1 (by decide) ?_
  obtain ⟨⟨r_2, t_spot_1⟩, hf_3, h⟩ := bd_ok h
  refine ck_Vi (rest := []) (wn := [(q_t, .inr (9, [.ref q_t_z, .ref q_t_old, .ref q_t_past, .int t_states, .ref q_t_kept, .int t_isKept, .ref q_t_text, .int t_length, .ref q_t_order, .ref q_t_told, .int t_spot_1, .int t_toldRows, .ref q_t_rowsTaken, .ref q_t_columnsTaken, .ref q_t_ways, .ref q_t_scaled, .ref q_t_rowFactors, .ref q_t_columnFactors, .ref q_t_rest, .ref q_t_diagonals, .ref q_t_weights])), (q_t_text, .inl (G.2 0, 100, .inl t_text)), (q_t_told, .inl (G.2 0, 49, .inl t_told))]) ⟨hx, hb, hml, hown, hts⟩ hK hP hD hS hA [0, 1] [2] [1, 2, 0] (c_X10_takes l G q_t q_t_z q_t_old q_t_past q_t_kept q_t_text q_t_order q_t_told q_t_rowsTaken q_t_columnsTaken q_t_ways q_t_scaled q_t_rowFactors q_t_columnFactors q_t_rest q_t_diagonals q_t_weights _ t_states t_isKept t_length t_spot t_toldRows t_text (45 : Int32) _ _ hf_3) (cwV 1 hts gX10_readEntry_X10_takes rfl rfl rfl (by decide +kernel) ⟨Nat.le_of_ble_eq_true rfl, Nat.le_of_ble_eq_true rfl⟩) rfl rfl rfl rfl rfl rfl (by decide) rfl rfl rfl hl.1 rfl (Nat.le_of_ble_eq_true rfl) dX10_readEntry_3 ⟨Nat.zero_le _, Nat.zero_le _⟩ (fun H locs hP hD hS => ?_)
  refine lv_istore_n (lv' := [(2, .int r_2), (0, .ref q_t), (1, .int a1)]) hx hb dX10_readEntry_6 rfl hl (by decide) rfl (fun ls hl => ?_)
  refine lv_aload_n hx hb dX10_readEntry_7 rfl (lv_at hl 1 rfl) ?_
  refine lv_iload_n hx hb dX10_readEntry_8 rfl (lv_at hl 0 rfl) ?_
  obtain ⟨y_5, hr, h⟩ := bd_ok h
  have J : ∀ (H : Heap) (locs : List Loc) (ls : Array Slot), va_P G.1 vwCl [(q_t, .inr (9, [.ref q_t_z, .ref q_t_old, .ref q_t_past, .int t_states, .ref q_t_kept, .int t_isKept, .ref q_t_text, .int t_length, .ref q_t_order, .ref q_t_told, .int t_spot_1, .int t_toldRows, .ref q_t_rowsTaken, .ref q_t_columnsTaken, .ref q_t_ways, .ref q_t_scaled, .ref q_t_rowFactors, .ref q_t_columnFactors, .ref q_t_rest, .ref q_t_diagonals, .ref q_t_weights])), (q_t_text, .inl (G.2 0, 100, .inl t_text)), (q_t_told, .inl (G.2 0, 49, .inl t_told))] H → va_D A0 [(q_t, .inr (9, [.ref q_t_z, .ref q_t_old, .ref q_t_past, .int t_states, .ref q_t_kept, .int t_isKept, .ref q_t_text, .int t_length, .ref q_t_order, .ref q_t_told, .int t_spot_1, .int t_toldRows, .ref q_t_rowsTaken, .ref q_t_columnsTaken, .ref q_t_ways, .ref q_t_scaled, .ref q_t_rowFactors, .ref q_t_columnFactors, .ref q_t_rest, .ref q_t_diagonals, .ref q_t_weights])), (q_t_text, .inl (G.2 0, 100, .inl t_text)), (q_t_told, .inl (G.2 0, 49, .inl t_told))] → va_S A0 H0 H locs → lv_has ls 4 [(0, .ref q_t), (1, .int a1), (2, .int r_2)] → W p l e ({ frames := 3, cells := 0, slots := 0, locals := 66 } : Room) s m args below meth c H locs 0 0 Q (F0 m 19 ls [.int y_5, .ref q_t]) := by
    intro H locs ls hP hD hS hl
    refine lv_bipush (v := 57) hx hb dX10_readEntry_19 (by decide) ?_
    obtain ⟨r_6, hf_7, h⟩ := bd_ok h
    refine ck_Vi (rest := []) (wn := [(q_t, .inr (9, [.ref q_t_z, .ref q_t_old, .ref q_t_past, .int t_states, .ref q_t_kept, .int t_isKept, .ref q_t_text, .int t_length, .ref q_t_order, .ref q_t_told, .int t_spot_1, .int t_toldRows, .ref q_t_rowsTaken, .ref q_t_columnsTaken, .ref q_t_ways, .ref q_t_scaled, .ref q_t_rowFactors, .ref q_t_columnFactors, .ref q_t_rest, .ref q_t_diagonals, .ref q_t_weights])), (q_t_text, .inl (G.2 0, 100, .inl t_text)), (q_t_told, .inl (G.2 0, 49, .inl t_told))]) ⟨hx, hb, hml, hown, hts⟩ hK hP hD hS hA [0, 1] [2] [1, 2, 0] (c_X10_sees l G q_t q_t_z q_t_old q_t_past q_t_kept q_t_text q_t_order q_t_told q_t_rowsTaken q_t_columnsTaken q_t_ways q_t_scaled q_t_rowFactors q_t_columnFactors q_t_rest q_t_diagonals q_t_weights _ t_states t_isKept t_length t_spot_1 t_toldRows t_text y_5 (57 : Int32) _ hf_7) (cwV 2 hts gX10_readEntry_X10_sees rfl rfl rfl (by decide +kernel) ⟨Nat.le_of_ble_eq_true rfl, Nat.le_of_ble_eq_true rfl⟩) rfl rfl rfl rfl rfl rfl (by decide) rfl rfl rfl hl.1 rfl (Nat.le_of_ble_eq_true rfl) dX10_readEntry_21 ⟨Nat.zero_le _, Nat.zero_le _⟩ (fun H locs hP hD hS => ?_)
    refine lv_if_ne (tgt := 29) hx hb dX10_readEntry_24 (by decide) (fun c_8 => ?_) (fun c_8 => ?_)
    · replace h := it_f h c_8
      refine lv_aload_n hx hb dX10_readEntry_29 rfl (lv_at hl 0 rfl) ?_
      refine va_get (D := G.1) (ci := 9) (v := .ref q_t_text) (C := RX10) (T := TX10) (N := 21) hx hb hts wi_X10_readEntry_X10 hown hK hP 0 rfl rfl 6 (by decide) (hts _ wd_X10_readEntry_1) (fun _ h9 => h9) rfl dX10_readEntry_30 ?_
      refine lv_aload_n hx hb dX10_readEntry_33 rfl (lv_at hl 0 rfl) ?_
      refine va_get (D := G.1) (ci := 9) (v := .int t_spot_1) (C := RX10) (T := TX10) (N := 21) hx hb hts wi_X10_readEntry_X10 hown hK hP 0 rfl rfl 10 (by decide) (hts _ wd_X10_readEntry_2) (fun _ h9 => h9) rfl dX10_readEntry_34 ?_
      obtain ⟨g_9, h⟩ := gd_ok h
      refine va_iald (D := G.1) hx hb hK hP 1 0 rfl rfl g_9 dX10_readEntry_37 ?_
      refine lv_bipush (v := 48) hx hb dX10_readEntry_38 (by decide) ?_
      refine lv_isub hx hb dX10_readEntry_40 ?_
      refine lv_topi (fun x3_10 ex3_10 => ?_)
      replace h := pl_v h ex3_10
      refine lv_istore_n (lv' := [(3, .int x3_10), (0, .ref q_t), (1, .int a1), (2, .int r_2)]) hx hb dX10_readEntry_41 rfl hl (by decide) rfl (fun ls hl => ?_)
      refine lv_aload_n hx hb dX10_readEntry_42 rfl (lv_at hl 1 rfl) ?_
      refine lv_dup hx hb dX10_readEntry_43 rfl ?_
      refine va_get (D := G.1) (ci := 9) (v := .int t_spot_1) (C := RX10) (T := TX10) (N := 21) hx hb hts wi_X10_readEntry_X10 hown hK hP 0 rfl rfl 10 (by decide) (hts _ wd_X10_readEntry_2) (fun _ h9 => h9) rfl dX10_readEntry_44 ?_
      refine lv_iconst (v := 1) hx hb dX10_readEntry_47 (by decide) ?_
      refine lv_iadd hx hb dX10_readEntry_48 ?_
      refine lv_topi (fun t_spot_11 et_spot_11 => ?_)
      replace h := pl_v h et_spot_11
      refine st_put (D := G.1) (ci := 9) (v := .int t_spot_11) (ty := .int) (C := RX10) (T := TX10) (N := 21) (wn := [(q_t, .inr (9, [.ref q_t_z, .ref q_t_old, .ref q_t_past, .int t_states, .ref q_t_kept, .int t_isKept, .ref q_t_text, .int t_length, .ref q_t_order, .ref q_t_told, .int t_spot_11, .int t_toldRows, .ref q_t_rowsTaken, .ref q_t_columnsTaken, .ref q_t_ways, .ref q_t_scaled, .ref q_t_rowFactors, .ref q_t_columnFactors, .ref q_t_rest, .ref q_t_diagonals, .ref q_t_weights])), (q_t_text, .inl (G.2 0, 100, .inl t_text)), (q_t_told, .inl (G.2 0, 49, .inl t_told))]) hx hb hts wi_X10_readEntry_X10 tyX10 tyX10_ok nmX10 hown hK hP hD hS 0 rfl rfl 10 (by decide) (hts _ wd_X10_readEntry_2) (fun _ h9 => h9) rfl (by decide +kernel) rfl rfl (Nat.le_of_ble_eq_true rfl) dX10_readEntry_49 rfl (fun H locs hP hD hS => ?_)
      refine lv_iload_n hx hb dX10_readEntry_52 rfl (lv_at hl 0 rfl) ?_
      obtain ⟨⟨x3_13, t_spot_14⟩, hr, h⟩ := bd_ok h
      have J : ∀ (H : Heap) (locs : List Loc) (ls : Array Slot), va_P G.1 vwCl [(q_t, .inr (9, [.ref q_t_z, .ref q_t_old, .ref q_t_past, .int t_states, .ref q_t_kept, .int t_isKept, .ref q_t_text, .int t_length, .ref q_t_order, .ref q_t_told, .int t_spot_14, .int t_toldRows, .ref q_t_rowsTaken, .ref q_t_columnsTaken, .ref q_t_ways, .ref q_t_scaled, .ref q_t_rowFactors, .ref q_t_columnFactors, .ref q_t_rest, .ref q_t_diagonals, .ref q_t_weights])), (q_t_text, .inl (G.2 0, 100, .inl t_text)), (q_t_told, .inl (G.2 0, 49, .inl t_told))] H → va_D A0 [(q_t, .inr (9, [.ref q_t_z, .ref q_t_old, .ref q_t_past, .int t_states, .ref q_t_kept, .int t_isKept, .ref q_t_text, .int t_length, .ref q_t_order, .ref q_t_told, .int t_spot_14, .int t_toldRows, .ref q_t_rowsTaken, .ref q_t_columnsTaken, .ref q_t_ways, .ref q_t_scaled, .ref q_t_rowFactors, .ref q_t_columnFactors, .ref q_t_rest, .ref q_t_diagonals, .ref q_t_weights])), (q_t_text, .inl (G.2 0, 100, .inl t_text)), (q_t_told, .inl (G.2 0, 49, .inl t_told))] → va_S A0 H0 H locs → lv_has ls 4 [(0, .ref q_t), (1, .int a1), (2, .int r_2), (3, .int x3_13)] → W p l e ({ frames := 3, cells := 0, slots := 0, locals := 66 } : Room) s m args below meth c H locs 0 0 Q (F0 m 117 ls []) := by
        intro H locs ls hP hD hS hl
        refine lv_aload_n hx hb dX10_readEntry_117 rfl (lv_at hl 0 rfl) ?_
        refine va_get (D := G.1) (ci := 9) (v := .ref q_t_told) (C := RX10) (T := TX10) (N := 21) hx hb hts wi_X10_readEntry_X10 hown hK hP 0 rfl rfl 9 (by decide) (hts _ wd_X10_readEntry_3) (fun _ h9 => h9) rfl dX10_readEntry_118 ?_
        refine lv_iload_n hx hb dX10_readEntry_121 rfl (lv_at hl 1 rfl) ?_
        refine lv_iload_n hx hb dX10_readEntry_122 rfl (lv_at hl 2 rfl) ?_
        refine lv_if_eq (tgt := 131) hx hb dX10_readEntry_123 (by decide) (fun c_23 => ?_) (fun c_23 => ?_)
        · replace h := it_t h c_23
          refine lv_iload_n hx hb dX10_readEntry_131 rfl (lv_at hl 3 rfl) ?_
          obtain ⟨g_24, h⟩ := gd_ok h
          obtain ⟨t_told_25, et_told_25, h⟩ := pl_ok h
          refine st_i (D := G.1) (wn := [(q_t, .inr (9, [.ref q_t_z, .ref q_t_old, .ref q_t_past, .int t_states, .ref q_t_kept, .int t_isKept, .ref q_t_text, .int t_length, .ref q_t_order, .ref q_t_told, .int t_spot_14, .int t_toldRows, .ref q_t_rowsTaken, .ref q_t_columnsTaken, .ref q_t_ways, .ref q_t_scaled, .ref q_t_rowFactors, .ref q_t_columnFactors, .ref q_t_rest, .ref q_t_diagonals, .ref q_t_weights])), (q_t_text, .inl (G.2 0, 100, .inl t_text)), (q_t_told, .inl (G.2 0, 49, .inl t_told_25))]) hx hb hK hP hD hS 2 0 rfl rfl g_24 dX10_readEntry_132 et_told_25 rfl (fun H locs hP hD hS => ?_)
          refine lv_iconst (v := 1) hx hb dX10_readEntry_133 (by decide) ?_
          obtain ⟨rfl, rfl, rfl⟩ := sm3 h
          exact KR H locs ls 134 dX10_readEntry_134 (Or.inr rfl) hP hD hS
        · replace h := it_f h c_23
          refine lv_iload_n hx hb dX10_readEntry_126 rfl (lv_at hl 3 rfl) ?_
          refine lv_ineg hx hb dX10_readEntry_127 ?_
          refine lv_goto (tgt := 132) hx hb dX10_readEntry_128 (by decide) ?_
          obtain ⟨g_26, h⟩ := gd_ok h
          obtain ⟨t_told_27, et_told_27, h⟩ := pl_ok h
          refine st_i (D := G.1) (wn := [(q_t, .inr (9, [.ref q_t_z, .ref q_t_old, .ref q_t_past, .int t_states, .ref q_t_kept, .int t_isKept, .ref q_t_text, .int t_length, .ref q_t_order, .ref q_t_told, .int t_spot_14, .int t_toldRows, .ref q_t_rowsTaken, .ref q_t_columnsTaken, .ref q_t_ways, .ref q_t_scaled, .ref q_t_rowFactors, .ref q_t_columnFactors, .ref q_t_rest, .ref q_t_diagonals, .ref q_t_weights])), (q_t_text, .inl (G.2 0, 100, .inl t_text)), (q_t_told, .inl (G.2 0, 49, .inl t_told_27))]) hx hb hK hP hD hS 2 0 rfl rfl g_26 dX10_readEntry_132 et_told_27 rfl (fun H locs hP hD hS => ?_)
          refine lv_iconst (v := 1) hx hb dX10_readEntry_133 (by decide) ?_
          obtain ⟨rfl, rfl, rfl⟩ := sm3 h
          exact KR H locs ls 134 dX10_readEntry_134 (Or.inr rfl) hP hD hS
      replace h := hr
      clear hr
      refine lv_if_le (tgt := 117) hx hb dX10_readEntry_53 (by decide) (fun c_12 => ?_) (fun c_12 => ?_)
      · replace h := it_t h c_12
        obtain ⟨rfl, rfl⟩ := sm2 h
        exact J H locs ls hP hD hS (lv_sub hl [1, 2, 3, 0] rfl)
      · replace h := it_f h c_12
        refine lv_aload_n hx hb dX10_readEntry_56 rfl (lv_at hl 1 rfl) ?_
        refine lv_bipush (v := 48) hx hb dX10_readEntry_57 (by decide) ?_
        refine lv_bipush (v := 57) hx hb dX10_readEntry_59 (by decide) ?_
        obtain ⟨r_15, hf_16, h⟩ := bd_ok h
        refine ck_Vi (rest := []) (wn := [(q_t, .inr (9, [.ref q_t_z, .ref q_t_old, .ref q_t_past, .int t_states, .ref q_t_kept, .int t_isKept, .ref q_t_text, .int t_length, .ref q_t_order, .ref q_t_told, .int t_spot_11, .int t_toldRows, .ref q_t_rowsTaken, .ref q_t_columnsTaken, .ref q_t_ways, .ref q_t_scaled, .ref q_t_rowFactors, .ref q_t_columnFactors, .ref q_t_rest, .ref q_t_diagonals, .ref q_t_weights])), (q_t_text, .inl (G.2 0, 100, .inl t_text)), (q_t_told, .inl (G.2 0, 49, .inl t_told))]) ⟨hx, hb, hml, hown, hts⟩ hK hP hD hS hA [0, 1] [2] [1, 2, 0] (c_X10_sees l G q_t q_t_z q_t_old q_t_past q_t_kept q_t_text q_t_order q_t_told q_t_rowsTaken q_t_columnsTaken q_t_ways q_t_scaled q_t_rowFactors q_t_columnFactors q_t_rest q_t_diagonals q_t_weights _ t_states t_isKept t_length t_spot_11 t_toldRows t_text (48 : Int32) (57 : Int32) _ hf_16) (cwV 2 hts gX10_readEntry_X10_sees rfl rfl rfl (by decide +kernel) ⟨Nat.le_of_ble_eq_true rfl, Nat.le_of_ble_eq_true rfl⟩) rfl rfl rfl rfl rfl rfl (by decide) rfl rfl rfl hl.1 rfl (Nat.le_of_ble_eq_true rfl) dX10_readEntry_61 ⟨Nat.zero_le _, Nat.zero_le _⟩ (fun H locs hP hD hS => ?_)
        refine lv_if_eq (tgt := 117) hx hb dX10_readEntry_64 (by decide) (fun c_17 => ?_) (fun c_17 => ?_)
        · replace h := it_t h c_17
          obtain ⟨rfl, rfl⟩ := sm2 h
          exact J H locs ls hP hD hS (lv_sub hl [1, 2, 3, 0] rfl)
        · replace h := it_f h c_17
          refine lv_bipush (v := 10) hx hb dX10_readEntry_67 (by decide) ?_
          refine lv_iload_n hx hb dX10_readEntry_69 rfl (lv_at hl 0 rfl) ?_
          refine lv_imul hx hb dX10_readEntry_70 ?_
          refine lv_aload_n hx hb dX10_readEntry_71 rfl (lv_at hl 1 rfl) ?_
          refine va_get (D := G.1) (ci := 9) (v := .ref q_t_text) (C := RX10) (T := TX10) (N := 21) hx hb hts wi_X10_readEntry_X10 hown hK hP 0 rfl rfl 6 (by decide) (hts _ wd_X10_readEntry_1) (fun _ h9 => h9) rfl dX10_readEntry_72 ?_
          refine lv_aload_n hx hb dX10_readEntry_75 rfl (lv_at hl 1 rfl) ?_
          refine va_get (D := G.1) (ci := 9) (v := .int t_spot_11) (C := RX10) (T := TX10) (N := 21) hx hb hts wi_X10_readEntry_X10 hown hK hP 0 rfl rfl 10 (by decide) (hts _ wd_X10_readEntry_2) (fun _ h9 => h9) rfl dX10_readEntry_76 ?_
          obtain ⟨g_18, h⟩ := gd_ok h
          refine va_iald (D := G.1) hx hb hK hP 1 0 rfl rfl g_18 dX10_readEntry_79 ?_
          refine lv_iadd hx hb dX10_readEntry_80 ?_
          refine lv_bipush (v := 48) hx hb dX10_readEntry_81 (by decide) ?_
          refine lv_isub hx hb dX10_readEntry_83 ?_
          refine lv_bipush (v := 20) hx hb dX10_readEntry_84 (by decide) ?_
          refine lv_icmp_gt (tgt := 117) hx hb dX10_readEntry_86 (by decide) (fun c_19 => ?_) (fun c_19 => ?_)
          · replace h := it_t h c_19
            obtain ⟨rfl, rfl⟩ := sm2 h
            exact J H locs ls hP hD hS (lv_sub hl [1, 2, 3, 0] rfl)
          · replace h := it_f h c_19
            refine lv_bipush (v := 10) hx hb dX10_readEntry_89 (by decide) ?_
            refine lv_iload_n hx hb dX10_readEntry_91 rfl (lv_at hl 0 rfl) ?_
            refine lv_imul hx hb dX10_readEntry_92 ?_
            refine lv_aload_n hx hb dX10_readEntry_93 rfl (lv_at hl 1 rfl) ?_
            refine va_get (D := G.1) (ci := 9) (v := .ref q_t_text) (C := RX10) (T := TX10) (N := 21) hx hb hts wi_X10_readEntry_X10 hown hK hP 0 rfl rfl 6 (by decide) (hts _ wd_X10_readEntry_1) (fun _ h9 => h9) rfl dX10_readEntry_94 ?_
            refine lv_aload_n hx hb dX10_readEntry_97 rfl (lv_at hl 1 rfl) ?_
            refine va_get (D := G.1) (ci := 9) (v := .int t_spot_11) (C := RX10) (T := TX10) (N := 21) hx hb hts wi_X10_readEntry_X10 hown hK hP 0 rfl rfl 10 (by decide) (hts _ wd_X10_readEntry_2) (fun _ h9 => h9) rfl dX10_readEntry_98 ?_
            obtain ⟨g_20, h⟩ := gd_ok h
            refine va_iald (D := G.1) hx hb hK hP 1 0 rfl rfl g_20 dX10_readEntry_101 ?_
            refine lv_iadd hx hb dX10_readEntry_102 ?_
            refine lv_bipush (v := 48) hx hb dX10_readEntry_103 (by decide) ?_
            refine lv_isub hx hb dX10_readEntry_105 ?_
            refine lv_topi (fun x3_21 ex3_21 => ?_)
            replace h := pl_v h ex3_21
            refine lv_istore_n (lv' := [(3, .int x3_21), (0, .ref q_t), (1, .int a1), (2, .int r_2)]) hx hb dX10_readEntry_106 rfl hl (by decide) rfl (fun ls hl => ?_)
            refine lv_aload_n hx hb dX10_readEntry_107 rfl (lv_at hl 1 rfl) ?_
            refine lv_dup hx hb dX10_readEntry_108 rfl ?_
            refine va_get (D := G.1) (ci := 9) (v := .int t_spot_11) (C := RX10) (T := TX10) (N := 21) hx hb hts wi_X10_readEntry_X10 hown hK hP 0 rfl rfl 10 (by decide) (hts _ wd_X10_readEntry_2) (fun _ h9 => h9) rfl dX10_readEntry_109 ?_
            refine lv_iconst (v := 1) hx hb dX10_readEntry_112 (by decide) ?_
            refine lv_iadd hx hb dX10_readEntry_113 ?_
            refine lv_topi (fun t_spot_22 et_spot_22 => ?_)
            replace h := pl_v h et_spot_22
            refine st_put (D := G.1) (ci := 9) (v := .int t_spot_22) (ty := .int) (C := RX10) (T := TX10) (N := 21) (wn := [(q_t, .inr (9, [.ref q_t_z, .ref q_t_old, .ref q_t_past, .int t_states, .ref q_t_kept, .int t_isKept, .ref q_t_text, .int t_length, .ref q_t_order, .ref q_t_told, .int t_spot_22, .int t_toldRows, .ref q_t_rowsTaken, .ref q_t_columnsTaken, .ref q_t_ways, .ref q_t_scaled, .ref q_t_rowFactors, .ref q_t_columnFactors, .ref q_t_rest, .ref q_t_diagonals, .ref q_t_weights])), (q_t_text, .inl (G.2 0, 100, .inl t_text)), (q_t_told, .inl (G.2 0, 49, .inl t_told))]) hx hb hts wi_X10_readEntry_X10 tyX10 tyX10_ok nmX10 hown hK hP hD hS 0 rfl rfl 10 (by decide) (hts _ wd_X10_readEntry_2) (fun _ h9 => h9) rfl (by decide +kernel) rfl rfl (Nat.le_of_ble_eq_true rfl) dX10_readEntry_114 rfl (fun H locs hP hD hS => ?_)
            obtain ⟨rfl, rfl⟩ := sm2 h
            exact J H locs ls hP hD hS (lv_sub hl [1, 2, 3, 0] rfl)
    · replace h := it_t h c_8
      refine lv_iconst (v := 0) hx hb dX10_readEntry_27 (by decide) ?_
      obtain ⟨rfl, rfl, rfl⟩ := sm3 h
      exact KR H locs ls 28 dX10_readEntry_28 (Or.inl rfl) hP hD hS
  replace h := hr
  clear hr
  refine lv_if_eq (tgt := 17) hx hb dX10_readEntry_9 (by decide) (fun c_4 => ?_) (fun c_4 => ?_)
  · replace h := it_t h c_4
    refine lv_bipush (v := 48) hx hb dX10_readEntry_17 (by decide) ?_
    obtain rfl := sm1 h
    exact J H locs ls hP hD hS (lv_sub hl [1, 2, 0] rfl)
  · replace h := it_f h c_4
    refine lv_bipush (v := 49) hx hb dX10_readEntry_12 (by decide) ?_
    refine lv_goto (tgt := 19) hx hb dX10_readEntry_14 (by decide) ?_
    obtain rfl := sm1 h
    exact J H locs ls hP hD hS (lv_sub hl [1, 2, 0] rfl)
set_option maxHeartbeats 4000000 in
set_option maxRecDepth 100000 in
theorem c_X10_readEntry (l : Launch) (G : GT) (q_t q_t_z q_t_old q_t_past q_t_kept q_t_text q_t_order q_t_told q_t_rowsTaken q_t_columnsTaken q_t_ways q_t_scaled q_t_rowFactors q_t_columnFactors q_t_rest q_t_diagonals q_t_weights : Nat) (sz : Nat) (t_states : Int32) (t_isKept : Int32) (t_length : Int32) (t_spot : Int32) (t_toldRows : Int32) (t_text : Nat → Int32) (t_told : Nat → Int32) (a1 : Int32) (r : Int32) (o_t_spot : Int32) (o_t_told : Nat → Int32) (h : f_X10_readEntry t_length t_spot t_text t_told a1 = some (r, o_t_spot, o_t_told)) : Met l yX10_readEntry wsX10_readEntry ({ frames := 3, cells := 0, slots := 0, locals := 66 } : Room) (va_Pc [.ref q_t, .int a1] (pcW G [(q_t, .inr (9, [.ref q_t_z, .ref q_t_old, .ref q_t_past, .int t_states, .ref q_t_kept, .int t_isKept, .ref q_t_text, .int t_length, .ref q_t_order, .ref q_t_told, .int t_spot, .int t_toldRows, .ref q_t_rowsTaken, .ref q_t_columnsTaken, .ref q_t_ways, .ref q_t_scaled, .ref q_t_rowFactors, .ref q_t_columnFactors, .ref q_t_rest, .ref q_t_diagonals, .ref q_t_weights])), (q_t_text, .inl (G.2 0, 100, .inl t_text)), (q_t_told, .inl (G.2 0, 49, .inl t_told))] sz)) (va_Qi (fun r9 (_ : Unit) => r9 = r) (fun _ t => atW G (va_A [(q_t, .inr (9, [.ref q_t_z, .ref q_t_old, .ref q_t_past, .int t_states, .ref q_t_kept, .int t_isKept, .ref q_t_text, .int t_length, .ref q_t_order, .ref q_t_told, .int t_spot, .int t_toldRows, .ref q_t_rowsTaken, .ref q_t_columnsTaken, .ref q_t_ways, .ref q_t_scaled, .ref q_t_rowFactors, .ref q_t_columnFactors, .ref q_t_rest, .ref q_t_diagonals, .ref q_t_weights])), (q_t_text, .inl (G.2 0, 100, .inl t_text)), (q_t_told, .inl (G.2 0, 49, .inl t_told))] sz) [(q_t, .inr (9, [.ref q_t_z, .ref q_t_old, .ref q_t_past, .int t_states, .ref q_t_kept, .int t_isKept, .ref q_t_text, .int t_length, .ref q_t_order, .ref q_t_told, .int o_t_spot, .int t_toldRows, .ref q_t_rowsTaken, .ref q_t_columnsTaken, .ref q_t_ways, .ref q_t_scaled, .ref q_t_rowFactors, .ref q_t_columnFactors, .ref q_t_rest, .ref q_t_diagonals, .ref q_t_weights])), (q_t_text, .inl (G.2 0, 100, .inl t_text)), (q_t_told, .inl (G.2 0, 49, .inl o_t_told))] t) (va_A [(q_t, .inr (9, [.ref q_t_z, .ref q_t_old, .ref q_t_past, .int t_states, .ref q_t_kept, .int t_isKept, .ref q_t_text, .int t_length, .ref q_t_order, .ref q_t_told, .int t_spot, .int t_toldRows, .ref q_t_rowsTaken, .ref q_t_columnsTaken, .ref q_t_ways, .ref q_t_scaled, .ref q_t_rowFactors, .ref q_t_columnFactors, .ref q_t_rest, .ref q_t_diagonals, .ref q_t_weights])), (q_t_text, .inl (G.2 0, 100, .inl t_text)), (q_t_told, .inl (G.2 0, 49, .inl t_told))] sz)) 0 0 (va_A [(q_t, .inr (9, [.ref q_t_z, .ref q_t_old, .ref q_t_past, .int t_states, .ref q_t_kept, .int t_isKept, .ref q_t_text, .int t_length, .ref q_t_order, .ref q_t_told, .int t_spot, .int t_toldRows, .ref q_t_rowsTaken, .ref q_t_columnsTaken, .ref q_t_ways, .ref q_t_scaled, .ref q_t_rowFactors, .ref q_t_columnFactors, .ref q_t_rest, .ref q_t_diagonals, .ref q_t_weights])), (q_t_text, .inl (G.2 0, 100, .inl t_text)), (q_t_told, .inl (G.2 0, 49, .inl t_told))] sz) := by
  refine Met.ofW (cc := cX10_readEntry) (maxL := 4) (ret := (some .boolean)) (by decide) rfl ?_
  intro p e s m args below meth c s₁ B hml hv
  obtain ⟨rfl, hsz, hP, hK, hD0⟩ := hv
  subst hsz
  have hD := hD0.self (sz := s.heap.size)
  generalize hAe : va_A [(q_t, .inr (9, [.ref q_t_z, .ref q_t_old, .ref q_t_past, .int t_states, .ref q_t_kept, .int t_isKept, .ref q_t_text, .int t_length, .ref q_t_order, .ref q_t_told, .int t_spot, .int t_toldRows, .ref q_t_rowsTaken, .ref q_t_columnsTaken, .ref q_t_ways, .ref q_t_scaled, .ref q_t_rowFactors, .ref q_t_columnFactors, .ref q_t_rest, .ref q_t_diagonals, .ref q_t_weights])), (q_t_text, .inl (G.2 0, 100, .inl t_text)), (q_t_told, .inl (G.2 0, 49, .inl t_told))] s.heap.size = A at hD ⊢
  have hA : ∀ q : Nat, s.heap.size ≤ q → A q := fun q h => by rw [← hAe]; exact Or.inr h
  have hl := lv_entry ([.ref q_t, .int a1]) (n := 4) (Nat.le_of_ble_eq_true rfl)
  rw [lg_entry_eq]
  refine k_X10_readEntry ⟨B.exec, B.bytes, hml, findClass_of_methodNamed B.named, atoms_spec (ws := wsX10_readEntry) B.pre⟩ G hK hA q_t q_t_z q_t_old q_t_past q_t_kept q_t_text q_t_order q_t_told q_t_rowsTaken q_t_columnsTaken q_t_ways q_t_scaled q_t_rowFactors q_t_columnFactors q_t_rest q_t_diagonals q_t_weights _ _ _ _ _ _ _ _ _ _ _ h ?_ _ _ _ hP hD va_S.rf hl
  intro H locs ls pc hd hbo hP hD hS
  exact W.zret B.exec B.bytes B.returns (by rcases hbo with e | e <;> subst e <;> rfl) (fun t ht hW => ⟨⟨r, (), rfl, rfl, by rw [ht]; exact hP, hD⟩, hS.F ht⟩) hS.2.2 hd B.notSynchronized
set_option maxRecDepth 20000 in
theorem wd_X10_readRow_1 : Cond.constant RX10 75 (-2000000005) ∈ wsX10_readRow := List.mem_of_getElem? (i := 1) (by decide +kernel)
def f_X10_readRow_L1 (x1 : Int32) (x2 : Int32) (t_length : Int32) (t_text : Nat → Int32) : (Int32 × Int32 × Int32 × (Nat → Int32)) → Option ((Int32 × Int32 × Int32 × (Nat → Int32)) ⊕ ((Int32 × Int32 × (Nat → Int32)) ⊕ (Int32 × Int32 × (Nat → Int32))))
  | (x3, x4, t_spot, t_told) =>
    if x4 = 0 then
      some (.inr (.inl (x3, t_spot, t_told)))
    else
      (f_X10_readEntry t_length t_spot t_text t_told (((7 : Int32) * x1) + x3)).bind (fun (r_4, t_spot_2, t_told_3) =>
      if r_4 = 0 then
        some (.inr (.inr ((-2000000005 : Int32), t_spot_2, t_told_3)))
      else
        pl ((x3 + (1 : Int32)) : Int32) (fun x3_7 =>
        if x2 ≤ x3_7 then
          some (.inl (x3_7, (0 : Int32), t_spot_2, t_told_3))
        else
          (f_X10_takes t_length t_spot_2 t_text (44 : Int32)).bind (fun (r_10, t_spot_9) =>
          if r_10 = 0 then
            some (.inl (x3_7, (0 : Int32), t_spot_9, t_told_3))
          else
            some (.inl (x3_7, (1 : Int32), t_spot_9, t_told_3)))))
def f_X10_readRow (t_length : Int32) (t_spot : Int32) (t_text : Nat → Int32) (t_told : Nat → Int32) (a1 : Int32) (a2 : Int32) : Option (Int32 × Int32 × (Nat → Int32)) :=
  (lpN (f_X10_readRow_L1 a1 a2 t_length t_text) FU ((0 : Int32), (1 : Int32), t_spot, t_told)).bind (fun z_16 => match z_16 with
  | .inl (x3_13, t_spot_14, t_told_15) =>
    some (x3_13, t_spot_14, t_told_15)
  | .inr (r_18, t_spot_19, t_told_20) => some (r_18, t_spot_19, t_told_20))
set_option maxHeartbeats 4000000 in
set_option maxRecDepth 100000 in
theorem l_X10_readRow_1 {p : Program} {l : Launch} {e : Env} {s : State} {m : MethodId} {args : Array Value} {below : List Frame} {meth : Method} {c : Code} {Q : State → Prop} {A0 : Nat → Prop} {H0 : Heap} (C : CallFix p m c cX10_readRow 5 s args wsX10_readRow RX10) (G : GT) (hK : gK G s) (hA : ∀ q : Nat, H0.size ≤ q → A0 q) (q_t q_t_z q_t_old q_t_past q_t_kept q_t_text q_t_order q_t_told q_t_rowsTaken q_t_columnsTaken q_t_ways q_t_scaled q_t_rowFactors q_t_columnFactors q_t_rest q_t_diagonals q_t_weights : Nat) (x1 : Int32) (x2 : Int32) (t_states : Int32) (t_isKept : Int32) (t_length : Int32) (t_toldRows : Int32) (t_text : Nat → Int32) (z : ((Int32 × Int32 × (Nat → Int32)) ⊕ (Int32 × Int32 × (Nat → Int32)))) (K : ∀ (E_x3 : Int32), ∀ (E_t_spot : Int32), ∀ (E_t_told : Nat → Int32), z = .inl (E_x3, E_t_spot, E_t_told) → ∀ (H : Heap) (locs : List Loc) (ls : Array Slot), va_P G.1 vwCl [(q_t, .inr (9, [.ref q_t_z, .ref q_t_old, .ref q_t_past, .int t_states, .ref q_t_kept, .int t_isKept, .ref q_t_text, .int t_length, .ref q_t_order, .ref q_t_told, .int E_t_spot, .int t_toldRows, .ref q_t_rowsTaken, .ref q_t_columnsTaken, .ref q_t_ways, .ref q_t_scaled, .ref q_t_rowFactors, .ref q_t_columnFactors, .ref q_t_rest, .ref q_t_diagonals, .ref q_t_weights])), (q_t_text, .inl (G.2 0, 100, .inl t_text)), (q_t_told, .inl (G.2 0, 49, .inl E_t_told))] H → va_D A0 [(q_t, .inr (9, [.ref q_t_z, .ref q_t_old, .ref q_t_past, .int t_states, .ref q_t_kept, .int t_isKept, .ref q_t_text, .int t_length, .ref q_t_order, .ref q_t_told, .int E_t_spot, .int t_toldRows, .ref q_t_rowsTaken, .ref q_t_columnsTaken, .ref q_t_ways, .ref q_t_scaled, .ref q_t_rowFactors, .ref q_t_columnFactors, .ref q_t_rest, .ref q_t_diagonals, .ref q_t_weights])), (q_t_text, .inl (G.2 0, 100, .inl t_text)), (q_t_told, .inl (G.2 0, 49, .inl E_t_told))] → va_S A0 H0 H locs → lv_has ls 5 [(3, .int E_x3)] → W p l e ({ frames := 4, cells := 0, slots := 0, locals := 89 } : Room) s m args below meth c H locs 0 0 Q (F0 m 53 ls [])) (KR : ∀ (r : Int32) (o_t_spot : Int32) (o_t_told : Nat → Int32), z = .inr (r, o_t_spot, o_t_told) → ∀ (H : Heap) (locs : List Loc) (ls : Array Slot) (pc : Nat), decode cX10_readRow pc = .ok (.ireturn, 1) → va_P G.1 vwCl [(q_t, .inr (9, [.ref q_t_z, .ref q_t_old, .ref q_t_past, .int t_states, .ref q_t_kept, .int t_isKept, .ref q_t_text, .int t_length, .ref q_t_order, .ref q_t_told, .int o_t_spot, .int t_toldRows, .ref q_t_rowsTaken, .ref q_t_columnsTaken, .ref q_t_ways, .ref q_t_scaled, .ref q_t_rowFactors, .ref q_t_columnFactors, .ref q_t_rest, .ref q_t_diagonals, .ref q_t_weights])), (q_t_text, .inl (G.2 0, 100, .inl t_text)), (q_t_told, .inl (G.2 0, 49, .inl o_t_told))] H → va_D A0 [(q_t, .inr (9, [.ref q_t_z, .ref q_t_old, .ref q_t_past, .int t_states, .ref q_t_kept, .int t_isKept, .ref q_t_text, .int t_length, .ref q_t_order, .ref q_t_told, .int o_t_spot, .int t_toldRows, .ref q_t_rowsTaken, .ref q_t_columnsTaken, .ref q_t_ways, .ref q_t_scaled, .ref q_t_rowFactors, .ref q_t_columnFactors, .ref q_t_rest, .ref q_t_diagonals, .ref q_t_weights])), (q_t_text, .inl (G.2 0, 100, .inl t_text)), (q_t_told, .inl (G.2 0, 49, .inl o_t_told))] → va_S A0 H0 H locs → W p l e ({ frames := 4, cells := 0, slots := 0, locals := 89 } : Room) s m args below meth c H locs 0 0 Q (F0 m pc ls [.int r])) : ∀ (n : Nat) (x3 : Int32) (x4 : Int32) (t_spot : Int32) (t_told : Nat → Int32), lpN (f_X10_readRow_L1 x1 x2 t_length t_text) n (x3, x4, t_spot, t_told) = some z → ∀ (H : Heap) (locs : List Loc) (ls : Array Slot), va_P G.1 vwCl [(q_t, .inr (9, [.ref q_t_z, .ref q_t_old, .ref q_t_past, .int t_states, .ref q_t_kept, .int t_isKept, .ref q_t_text, .int t_length, .ref q_t_order, .ref q_t_told, .int t_spot, .int t_toldRows, .ref q_t_rowsTaken, .ref q_t_columnsTaken, .ref q_t_ways, .ref q_t_scaled, .ref q_t_rowFactors, .ref q_t_columnFactors, .ref q_t_rest, .ref q_t_diagonals, .ref q_t_weights])), (q_t_text, .inl (G.2 0, 100, .inl t_text)), (q_t_told, .inl (G.2 0, 49, .inl t_told))] H → va_D A0 [(q_t, .inr (9, [.ref q_t_z, .ref q_t_old, .ref q_t_past, .int t_states, .ref q_t_kept, .int t_isKept, .ref q_t_text, .int t_length, .ref q_t_order, .ref q_t_told, .int t_spot, .int t_toldRows, .ref q_t_rowsTaken, .ref q_t_columnsTaken, .ref q_t_ways, .ref q_t_scaled, .ref q_t_rowFactors, .ref q_t_columnFactors, .ref q_t_rest, .ref q_t_diagonals, .ref q_t_weights])), (q_t_text, .inl (G.2 0, 100, .inl t_text)), (q_t_told, .inl (G.2 0, 49, .inl t_told))] → va_S A0 H0 H locs → lv_has ls 5 [(0, .ref q_t), (1, .int x1), (2, .int x2), (3, .int x3), (4, .int x4)] → W p l e ({ frames := 4, cells := 0, slots := 0, locals := 89 } : Room) s m args below meth c H locs 0 0 Q (F0 m 5 ls []) := by
  obtain ⟨hx, hb, hml, hown, hts⟩ := C
  intro n
  induction n with
  | zero => intro x3 x4 t_spot t_told h; exact absurd h (fun h => lp_0 h)
  | succ n ih =>
    intro x3 x4 t_spot t_told h H locs ls hP hD hS hl
    obtain ⟨y, h, hk⟩ := lp_s h
    rw [f_X10_readRow_L1] at h
    refine lv_iload hx hb dX10_readRow_5 (lv_at hl 4 rfl) ?_
    refine lv_if_eq (tgt := 53) hx hb dX10_readRow_7 (by decide) (fun c_1 => ?_) (fun c_1 => ?_)
    · replace h := it_t h c_1
      obtain rfl := sm1 h
      obtain rfl := sm1 hk
      exact K x3 t_spot t_told rfl H locs ls hP hD hS (lv_sub hl [3] rfl)
    · replace h := it_f h c_1
      refine lv_aload_n hx hb dX10_readRow_10 rfl (lv_at hl 0 rfl) ?_
      refine lv_bipush (v := 7) hx hb dX10_readRow_11 (by decide) ?_
      refine lv_iload_n hx hb dX10_readRow_13 rfl (lv_at hl 1 rfl) ?_
      refine lv_imul hx hb dX10_readRow_14 ?_
      refine lv_iload_n hx hb dX10_readRow_15 rfl (lv_at hl 3 rfl) ?_
      refine lv_iadd hx hb dX10_readRow_16 ?_
      obtain ⟨⟨r_4, t_spot_2, t_told_3⟩, hf_5, h⟩ := bd_ok h
      refine ck_Vi (rest := []) (wn := [(q_t, .inr (9, [.ref q_t_z, .ref q_t_old, .ref q_t_past, .int t_states, .ref q_t_kept, .int t_isKept, .ref q_t_text, .int t_length, .ref q_t_order, .ref q_t_told, .int t_spot_2, .int t_toldRows, .ref q_t_rowsTaken, .ref q_t_columnsTaken, .ref q_t_ways, .ref q_t_scaled, .ref q_t_rowFactors, .ref q_t_columnFactors, .ref q_t_rest, .ref q_t_diagonals, .ref q_t_weights])), (q_t_text, .inl (G.2 0, 100, .inl t_text)), (q_t_told, .inl (G.2 0, 49, .inl t_told_3))]) ⟨hx, hb, hml, hown, hts⟩ hK hP hD hS hA [0, 1, 2] [] [0, 1, 2] (c_X10_readEntry l G q_t q_t_z q_t_old q_t_past q_t_kept q_t_text q_t_order q_t_told q_t_rowsTaken q_t_columnsTaken q_t_ways q_t_scaled q_t_rowFactors q_t_columnFactors q_t_rest q_t_diagonals q_t_weights _ t_states t_isKept t_length t_spot t_toldRows t_text t_told (((7 : Int32) * x1) + x3) _ _ _ hf_5) (cwV 1 hts gX10_readRow_X10_readEntry rfl rfl rfl (by decide +kernel) ⟨Nat.le_of_ble_eq_true rfl, Nat.le_of_ble_eq_true rfl⟩) rfl rfl rfl rfl rfl rfl (by decide) rfl rfl rfl hl.1 rfl (Nat.le_of_ble_eq_true rfl) dX10_readRow_17 ⟨Nat.zero_le _, Nat.zero_le _⟩ (fun H locs hP hD hS => ?_)
      refine lv_if_ne (tgt := 26) hx hb dX10_readRow_20 (by decide) (fun c_6 => ?_) (fun c_6 => ?_)
      · replace h := it_f h c_6
        obtain ⟨x3_7, ex3_7, h⟩ := pl_ok h
        refine lv_iinc (v := x3_7) (lv' := [(3, .int x3_7), (0, .ref q_t), (1, .int x1), (2, .int x2), (4, .int x4)]) hx hb dX10_readRow_26 hl (k := 3) rfl (by rw [ex3_7]; rfl) (by decide) rfl (fun ls hl => ?_)
        refine lv_iload_n hx hb dX10_readRow_29 rfl (lv_at hl 0 rfl) ?_
        refine lv_iload_n hx hb dX10_readRow_30 rfl (lv_at hl 3 rfl) ?_
        refine lv_icmp_ge (tgt := 47) hx hb dX10_readRow_31 (by decide) (fun c_8 => ?_) (fun c_8 => ?_)
        · replace h := it_t h c_8
          refine lv_iconst (v := 0) hx hb dX10_readRow_47 (by decide) ?_
          refine lv_istore (lv' := [(4, .int (0 : Int32)), (3, .int x3_7), (0, .ref q_t), (1, .int x1), (2, .int x2)]) hx hb dX10_readRow_48 hl (by decide) rfl (fun ls hl => ?_)
          refine lv_goto (tgt := 5) hx hb dX10_readRow_50 (by decide) ?_
          obtain rfl := sm1 h
          exact ih x3_7 (0 : Int32) t_spot_2 t_told_3 hk H locs ls hP hD hS (lv_sub hl [2, 3, 4, 1, 0] rfl)
        · replace h := it_f h c_8
          refine lv_aload_n hx hb dX10_readRow_34 rfl (lv_at hl 1 rfl) ?_
          refine lv_bipush (v := 44) hx hb dX10_readRow_35 (by decide) ?_
          obtain ⟨⟨r_10, t_spot_9⟩, hf_11, h⟩ := bd_ok h
          refine ck_Vi (rest := []) (wn := [(q_t, .inr (9, [.ref q_t_z, .ref q_t_old, .ref q_t_past, .int t_states, .ref q_t_kept, .int t_isKept, .ref q_t_text, .int t_length, .ref q_t_order, .ref q_t_told, .int t_spot_9, .int t_toldRows, .ref q_t_rowsTaken, .ref q_t_columnsTaken, .ref q_t_ways, .ref q_t_scaled, .ref q_t_rowFactors, .ref q_t_columnFactors, .ref q_t_rest, .ref q_t_diagonals, .ref q_t_weights])), (q_t_text, .inl (G.2 0, 100, .inl t_text)), (q_t_told, .inl (G.2 0, 49, .inl t_told_3))]) ⟨hx, hb, hml, hown, hts⟩ hK hP hD hS hA [0, 1] [2] [1, 2, 0] (c_X10_takes l G q_t q_t_z q_t_old q_t_past q_t_kept q_t_text q_t_order q_t_told q_t_rowsTaken q_t_columnsTaken q_t_ways q_t_scaled q_t_rowFactors q_t_columnFactors q_t_rest q_t_diagonals q_t_weights _ t_states t_isKept t_length t_spot_2 t_toldRows t_text (44 : Int32) _ _ hf_11) (cwV 1 hts gX10_readRow_X10_takes rfl rfl rfl (by decide +kernel) ⟨Nat.le_of_ble_eq_true rfl, Nat.le_of_ble_eq_true rfl⟩) rfl rfl rfl rfl rfl rfl (by decide) rfl rfl rfl hl.1 rfl (Nat.le_of_ble_eq_true rfl) dX10_readRow_37 ⟨Nat.zero_le _, Nat.zero_le _⟩ (fun H locs hP hD hS => ?_)
          refine lv_if_eq (tgt := 47) hx hb dX10_readRow_40 (by decide) (fun c_12 => ?_) (fun c_12 => ?_)
          · replace h := it_t h c_12
            refine lv_iconst (v := 0) hx hb dX10_readRow_47 (by decide) ?_
            refine lv_istore (lv' := [(4, .int (0 : Int32)), (3, .int x3_7), (0, .ref q_t), (1, .int x1), (2, .int x2)]) hx hb dX10_readRow_48 hl (by decide) rfl (fun ls hl => ?_)
            refine lv_goto (tgt := 5) hx hb dX10_readRow_50 (by decide) ?_
            obtain rfl := sm1 h
            exact ih x3_7 (0 : Int32) t_spot_9 t_told_3 hk H locs ls hP hD hS (lv_sub hl [2, 3, 4, 1, 0] rfl)
          · replace h := it_f h c_12
            refine lv_iconst (v := 1) hx hb dX10_readRow_43 (by decide) ?_
            refine lv_goto (tgt := 48) hx hb dX10_readRow_44 (by decide) ?_
            refine lv_istore (lv' := [(4, .int (1 : Int32)), (3, .int x3_7), (0, .ref q_t), (1, .int x1), (2, .int x2)]) hx hb dX10_readRow_48 hl (by decide) rfl (fun ls hl => ?_)
            refine lv_goto (tgt := 5) hx hb dX10_readRow_50 (by decide) ?_
            obtain rfl := sm1 h
            exact ih x3_7 (1 : Int32) t_spot_9 t_told_3 hk H locs ls hP hD hS (lv_sub hl [2, 3, 4, 1, 0] rfl)
      · replace h := it_t h c_6
        refine lv_ldc (v := -2000000005) hx hb hown (hts _ wd_X10_readRow_1) dX10_readRow_23 ?_
        obtain rfl := sm1 h
        obtain rfl := sm1 hk
        exact KR (-2000000005 : Int32) t_spot_2 t_told_3 rfl H locs ls 25 dX10_readRow_25 hP hD hS
set_option maxHeartbeats 4000000 in
set_option maxRecDepth 100000 in
theorem k_X10_readRow {p : Program} {l : Launch} {e : Env} {s : State} {m : MethodId} {args : Array Value} {below : List Frame} {meth : Method} {c : Code} {Q : State → Prop} {A0 : Nat → Prop} {H0 : Heap} (C : CallFix p m c cX10_readRow 5 s args wsX10_readRow RX10) (G : GT) (hK : gK G s) (hA : ∀ q : Nat, H0.size ≤ q → A0 q) (q_t q_t_z q_t_old q_t_past q_t_kept q_t_text q_t_order q_t_told q_t_rowsTaken q_t_columnsTaken q_t_ways q_t_scaled q_t_rowFactors q_t_columnFactors q_t_rest q_t_diagonals q_t_weights : Nat) (t_states : Int32) (t_isKept : Int32) (t_length : Int32) (t_spot : Int32) (t_toldRows : Int32) (t_text : Nat → Int32) (t_told : Nat → Int32) (a1 : Int32) (a2 : Int32) (r : Int32) (o_t_spot : Int32) (o_t_told : Nat → Int32) (h : f_X10_readRow t_length t_spot t_text t_told a1 a2 = some (r, o_t_spot, o_t_told)) (KR : ∀ (H : Heap) (locs : List Loc) (ls : Array Slot) (pc : Nat), decode cX10_readRow pc = .ok (.ireturn, 1) → va_P G.1 vwCl [(q_t, .inr (9, [.ref q_t_z, .ref q_t_old, .ref q_t_past, .int t_states, .ref q_t_kept, .int t_isKept, .ref q_t_text, .int t_length, .ref q_t_order, .ref q_t_told, .int o_t_spot, .int t_toldRows, .ref q_t_rowsTaken, .ref q_t_columnsTaken, .ref q_t_ways, .ref q_t_scaled, .ref q_t_rowFactors, .ref q_t_columnFactors, .ref q_t_rest, .ref q_t_diagonals, .ref q_t_weights])), (q_t_text, .inl (G.2 0, 100, .inl t_text)), (q_t_told, .inl (G.2 0, 49, .inl o_t_told))] H → va_D A0 [(q_t, .inr (9, [.ref q_t_z, .ref q_t_old, .ref q_t_past, .int t_states, .ref q_t_kept, .int t_isKept, .ref q_t_text, .int t_length, .ref q_t_order, .ref q_t_told, .int o_t_spot, .int t_toldRows, .ref q_t_rowsTaken, .ref q_t_columnsTaken, .ref q_t_ways, .ref q_t_scaled, .ref q_t_rowFactors, .ref q_t_columnFactors, .ref q_t_rest, .ref q_t_diagonals, .ref q_t_weights])), (q_t_text, .inl (G.2 0, 100, .inl t_text)), (q_t_told, .inl (G.2 0, 49, .inl o_t_told))] → va_S A0 H0 H locs → W p l e ({ frames := 4, cells := 0, slots := 0, locals := 89 } : Room) s m args below meth c H locs 0 0 Q (F0 m pc ls [.int r])) : ∀ (H : Heap) (locs : List Loc) (ls : Array Slot), va_P G.1 vwCl [(q_t, .inr (9, [.ref q_t_z, .ref q_t_old, .ref q_t_past, .int t_states, .ref q_t_kept, .int t_isKept, .ref q_t_text, .int t_length, .ref q_t_order, .ref q_t_told, .int t_spot, .int t_toldRows, .ref q_t_rowsTaken, .ref q_t_columnsTaken, .ref q_t_ways, .ref q_t_scaled, .ref q_t_rowFactors, .ref q_t_columnFactors, .ref q_t_rest, .ref q_t_diagonals, .ref q_t_weights])), (q_t_text, .inl (G.2 0, 100, .inl t_text)), (q_t_told, .inl (G.2 0, 49, .inl t_told))] H → va_D A0 [(q_t, .inr (9, [.ref q_t_z, .ref q_t_old, .ref q_t_past, .int t_states, .ref q_t_kept, .int t_isKept, .ref q_t_text, .int t_length, .ref q_t_order, .ref q_t_told, .int t_spot, .int t_toldRows, .ref q_t_rowsTaken, .ref q_t_columnsTaken, .ref q_t_ways, .ref q_t_scaled, .ref q_t_rowFactors, .ref q_t_columnFactors, .ref q_t_rest, .ref q_t_diagonals, .ref q_t_weights])), (q_t_text, .inl (G.2 0, 100, .inl t_text)), (q_t_told, .inl (G.2 0, 49, .inl t_told))] → va_S A0 H0 H locs → lv_has ls 5 [(0, .ref q_t), (1, .int a1), (2, .int a2)] → W p l e ({ frames := 4, cells := 0, slots := 0, locals := 89 } : Room) s m args below meth c H locs 0 0 Q (F0 m 0 ls []) := by
  obtain ⟨hx, hb, hml, hown, hts⟩ := C
  intro H locs ls hP hD hS hl
  rw [f_X10_readRow] at h
  refine lv_iconst (v := 0) hx hb dX10_readRow_0 (by decide) ?_
  refine lv_istore_n (lv' := [(3, .int (0 : Int32)), (0, .ref q_t), (1, .int a1), (2, .int a2)]) hx hb dX10_readRow_1 rfl hl (by decide) rfl (fun ls hl => ?_)
  refine lv_iconst (v := 1) hx hb dX10_readRow_2 (by decide) ?_
  refine lv_istore (lv' := [(4, .int (1 : Int32)), (3, .int (0 : Int32)), (0, .ref q_t), (1, .int a1), (2, .int a2)]) hx hb dX10_readRow_3 hl (by decide) rfl (fun ls hl => ?_)
  obtain ⟨z_16, hz_17, h⟩ := bd_ok h
  refine l_X10_readRow_1 ⟨hx, hb, hml, hown, hts⟩ G hK hA q_t q_t_z q_t_old q_t_past q_t_kept q_t_text q_t_order q_t_told q_t_rowsTaken q_t_columnsTaken q_t_ways q_t_scaled q_t_rowFactors q_t_columnFactors q_t_rest q_t_diagonals q_t_weights a1 a2 t_states t_isKept t_length t_toldRows t_text z_16 ?_ ?_ FU (0 : Int32) (1 : Int32) t_spot t_told hz_17 H locs ls hP hD hS (lv_sub hl [2, 3, 4, 1, 0] rfl)
  · intro x3_13 t_spot_14 t_told_15 hz H locs ls hP hD hS hl
    subst hz
    refine lv_iload_n hx hb dX10_readRow_53 rfl (lv_at hl 0 rfl) ?_
    obtain ⟨rfl, rfl, rfl⟩ := sm3 h
    exact KR H locs ls 54 dX10_readRow_54 hP hD hS
  · intro r_18 t_spot_19 t_told_20 hz H locs ls pc hd hP hD hS
    subst hz
    obtain ⟨rfl, rfl, rfl⟩ := sm3 h
    exact KR H locs ls pc hd hP hD hS
set_option maxHeartbeats 4000000 in
set_option maxRecDepth 100000 in
theorem c_X10_readRow (l : Launch) (G : GT) (q_t q_t_z q_t_old q_t_past q_t_kept q_t_text q_t_order q_t_told q_t_rowsTaken q_t_columnsTaken q_t_ways q_t_scaled q_t_rowFactors q_t_columnFactors q_t_rest q_t_diagonals q_t_weights : Nat) (sz : Nat) (t_states : Int32) (t_isKept : Int32) (t_length : Int32) (t_spot : Int32) (t_toldRows : Int32) (t_text : Nat → Int32) (t_told : Nat → Int32) (a1 : Int32) (a2 : Int32) (r : Int32) (o_t_spot : Int32) (o_t_told : Nat → Int32) (h : f_X10_readRow t_length t_spot t_text t_told a1 a2 = some (r, o_t_spot, o_t_told)) : Met l yX10_readRow wsX10_readRow ({ frames := 4, cells := 0, slots := 0, locals := 89 } : Room) (va_Pc [.ref q_t, .int a1, .int a2] (pcW G [(q_t, .inr (9, [.ref q_t_z, .ref q_t_old, .ref q_t_past, .int t_states, .ref q_t_kept, .int t_isKept, .ref q_t_text, .int t_length, .ref q_t_order, .ref q_t_told, .int t_spot, .int t_toldRows, .ref q_t_rowsTaken, .ref q_t_columnsTaken, .ref q_t_ways, .ref q_t_scaled, .ref q_t_rowFactors, .ref q_t_columnFactors, .ref q_t_rest, .ref q_t_diagonals, .ref q_t_weights])), (q_t_text, .inl (G.2 0, 100, .inl t_text)), (q_t_told, .inl (G.2 0, 49, .inl t_told))] sz)) (va_Qi (fun r9 (_ : Unit) => r9 = r) (fun _ t => atW G (va_A [(q_t, .inr (9, [.ref q_t_z, .ref q_t_old, .ref q_t_past, .int t_states, .ref q_t_kept, .int t_isKept, .ref q_t_text, .int t_length, .ref q_t_order, .ref q_t_told, .int t_spot, .int t_toldRows, .ref q_t_rowsTaken, .ref q_t_columnsTaken, .ref q_t_ways, .ref q_t_scaled, .ref q_t_rowFactors, .ref q_t_columnFactors, .ref q_t_rest, .ref q_t_diagonals, .ref q_t_weights])), (q_t_text, .inl (G.2 0, 100, .inl t_text)), (q_t_told, .inl (G.2 0, 49, .inl t_told))] sz) [(q_t, .inr (9, [.ref q_t_z, .ref q_t_old, .ref q_t_past, .int t_states, .ref q_t_kept, .int t_isKept, .ref q_t_text, .int t_length, .ref q_t_order, .ref q_t_told, .int o_t_spot, .int t_toldRows, .ref q_t_rowsTaken, .ref q_t_columnsTaken, .ref q_t_ways, .ref q_t_scaled, .ref q_t_rowFactors, .ref q_t_columnFactors, .ref q_t_rest, .ref q_t_diagonals, .ref q_t_weights])), (q_t_text, .inl (G.2 0, 100, .inl t_text)), (q_t_told, .inl (G.2 0, 49, .inl o_t_told))] t) (va_A [(q_t, .inr (9, [.ref q_t_z, .ref q_t_old, .ref q_t_past, .int t_states, .ref q_t_kept, .int t_isKept, .ref q_t_text, .int t_length, .ref q_t_order, .ref q_t_told, .int t_spot, .int t_toldRows, .ref q_t_rowsTaken, .ref q_t_columnsTaken, .ref q_t_ways, .ref q_t_scaled, .ref q_t_rowFactors, .ref q_t_columnFactors, .ref q_t_rest, .ref q_t_diagonals, .ref q_t_weights])), (q_t_text, .inl (G.2 0, 100, .inl t_text)), (q_t_told, .inl (G.2 0, 49, .inl t_told))] sz)) 0 0 (va_A [(q_t, .inr (9, [.ref q_t_z, .ref q_t_old, .ref q_t_past, .int t_states, .ref q_t_kept, .int t_isKept, .ref q_t_text, .int t_length, .ref q_t_order, .ref q_t_told, .int t_spot, .int t_toldRows, .ref q_t_rowsTaken, .ref q_t_columnsTaken, .ref q_t_ways, .ref q_t_scaled, .ref q_t_rowFactors, .ref q_t_columnFactors, .ref q_t_rest, .ref q_t_diagonals, .ref q_t_weights])), (q_t_text, .inl (G.2 0, 100, .inl t_text)), (q_t_told, .inl (G.2 0, 49, .inl t_told))] sz) := by
  refine Met.ofW (cc := cX10_readRow) (maxL := 5) (ret := (some .int)) (by decide) rfl ?_
  intro p e s m args below meth c s₁ B hml hv
  obtain ⟨rfl, hsz, hP, hK, hD0⟩ := hv
  subst hsz
  have hD := hD0.self (sz := s.heap.size)
  generalize hAe : va_A [(q_t, .inr (9, [.ref q_t_z, .ref q_t_old, .ref q_t_past, .int t_states, .ref q_t_kept, .int t_isKept, .ref q_t_text, .int t_length, .ref q_t_order, .ref q_t_told, .int t_spot, .int t_toldRows, .ref q_t_rowsTaken, .ref q_t_columnsTaken, .ref q_t_ways, .ref q_t_scaled, .ref q_t_rowFactors, .ref q_t_columnFactors, .ref q_t_rest, .ref q_t_diagonals, .ref q_t_weights])), (q_t_text, .inl (G.2 0, 100, .inl t_text)), (q_t_told, .inl (G.2 0, 49, .inl t_told))] s.heap.size = A at hD ⊢
  have hA : ∀ q : Nat, s.heap.size ≤ q → A q := fun q h => by rw [← hAe]; exact Or.inr h
  have hl := lv_entry ([.ref q_t, .int a1, .int a2]) (n := 5) (Nat.le_of_ble_eq_true rfl)
  rw [lg_entry_eq]
  refine k_X10_readRow ⟨B.exec, B.bytes, hml, findClass_of_methodNamed B.named, atoms_spec (ws := wsX10_readRow) B.pre⟩ G hK hA q_t q_t_z q_t_old q_t_past q_t_kept q_t_text q_t_order q_t_told q_t_rowsTaken q_t_columnsTaken q_t_ways q_t_scaled q_t_rowFactors q_t_columnFactors q_t_rest q_t_diagonals q_t_weights _ _ _ _ _ _ _ _ _ _ _ _ h ?_ _ _ _ hP hD va_S.rf hl
  intro H locs ls pc hd hP hD hS
  exact W.iret B.exec B.bytes B.returns (fun t ht hW => ⟨⟨r, (), rfl, rfl, by rw [ht]; exact hP, hD⟩, hS.F ht⟩) hS.2.2 hd B.notSynchronized
set_option maxRecDepth 20000 in
theorem wd_X10_readText_1 : Cond.fieldLink RX10 116 "PermanentDeskModel" "spot" "I" ∈ wsX10_readText := List.mem_of_getElem? (i := 1) (by decide +kernel)
set_option maxRecDepth 20000 in
theorem wi_X10_readText_X10 : ∀ w ∈ u_ws RX10 TX10 21, w ∈ wsX10_readText := by decide +kernel
set_option maxRecDepth 20000 in
theorem wd_X10_readText_2 : Cond.fieldLink RX10 28 "PermanentDeskModel" "told" "[I" ∈ wsX10_readText := List.mem_of_getElem? (i := 2) (by decide +kernel)
set_option maxRecDepth 20000 in
theorem wd_X10_readText_3 : Cond.fieldLink RX10 132 "PermanentDeskModel" "toldRows" "I" ∈ wsX10_readText := List.mem_of_getElem? (i := 3) (by decide +kernel)
set_option maxRecDepth 20000 in
theorem wd_X10_readText_4 : Cond.constant RX10 75 (-2000000005) ∈ wsX10_readText := List.mem_of_getElem? (i := 4) (by decide +kernel)
set_option maxRecDepth 20000 in
theorem wd_X10_readText_5 : Cond.fieldLink RX10 112 "PermanentDeskModel" "length" "I" ∈ wsX10_readText := List.mem_of_getElem? (i := 5) (by decide +kernel)
def f_X10_readText_L1  : (Int32 × (Nat → Int32)) → Option ((Int32 × (Nat → Int32)) ⊕ (Nat → Int32))
  | (x1, t_told) =>
    if (49 : Int32) ≤ x1 then
      some (.inr t_told)
    else
      gd (okI x1 49) (
      pl ((upd t_told x1.toNatClampNeg (0 : Int32)) : Nat → Int32) (fun t_told_3 =>
      pl ((x1 + (1 : Int32)) : Int32) (fun x1_4 =>
      some (.inl (x1_4, t_told_3)))))
def f_X10_readText_L2 (t_length : Int32) (t_toldRows : Int32) (t_text : Nat → Int32) : (Int32 × Int32 × (Nat → Int32)) → Option ((Int32 × Int32 × (Nat → Int32)) ⊕ ((Int32 × (Nat → Int32)) ⊕ (Int32 × Int32 × Int32 × (Nat → Int32))))
  | (x1, t_spot, t_told) =>
    if t_toldRows ≤ x1 then
      some (.inr (.inl (t_spot, t_told)))
    else
      (f_X10_takes t_length t_spot t_text (47 : Int32)).bind (fun (r_15, t_spot_14) =>
      if r_15 = 0 then
        some (.inr (.inr ((0 : Int32), t_spot_14, t_toldRows, t_told)))
      else
        (f_X10_readRow t_length t_spot_14 t_text t_told x1 t_toldRows).bind (fun (r_20, t_spot_18, t_told_19) =>
        if r_20 = t_toldRows then
          pl ((x1 + (1 : Int32)) : Int32) (fun x1_23 =>
          some (.inl (x1_23, t_spot_18, t_told_19)))
        else
          some (.inr (.inr ((0 : Int32), t_spot_18, t_toldRows, t_told_19)))))
def f_X10_readText (t_length : Int32) (t_spot : Int32) (t_toldRows : Int32) (t_text : Nat → Int32) (t_told : Nat → Int32) : Option (Int32 × Int32 × Int32 × (Nat → Int32)) :=
  (lpN (f_X10_readText_L1) FU ((0 : Int32), t_told)).bind (fun t_told_5 =>
  (f_X10_readRow t_length (0 : Int32) t_text t_told_5 (0 : Int32) (7 : Int32)).bind (fun (r_10, t_spot_8, t_told_9) =>
  if r_10 = (-2000000005 : Int32) then
    some ((0 : Int32), t_spot_8, r_10, t_told_9)
  else
    (lpN (f_X10_readText_L2 t_length r_10 t_text) FU ((1 : Int32), t_spot_8, t_told_9)).bind (fun z_26 => match z_26 with
    | .inl (t_spot_24, t_told_25) =>
      if t_spot_24 = t_length then
        some ((1 : Int32), t_spot_24, r_10, t_told_25)
      else
        some ((0 : Int32), t_spot_24, r_10, t_told_25)
    | .inr (r_29, t_spot_30, t_toldRows_31, t_told_32) => some (r_29, t_spot_30, t_toldRows_31, t_told_32))))
set_option maxHeartbeats 4000000 in
set_option maxRecDepth 100000 in
theorem l_X10_readText_1 {p : Program} {l : Launch} {e : Env} {s : State} {m : MethodId} {args : Array Value} {below : List Frame} {meth : Method} {c : Code} {Q : State → Prop} {A0 : Nat → Prop} {H0 : Heap} (C : CallFix p m c cX10_readText 2 s args wsX10_readText RX10) (G : GT) (hK : gK G s) (hA : ∀ q : Nat, H0.size ≤ q → A0 q) (q_t q_t_z q_t_old q_t_past q_t_kept q_t_text q_t_order q_t_told q_t_rowsTaken q_t_columnsTaken q_t_ways q_t_scaled q_t_rowFactors q_t_columnFactors q_t_rest q_t_diagonals q_t_weights : Nat) (t_states : Int32) (t_isKept : Int32) (t_length : Int32) (t_spot : Int32) (t_toldRows : Int32) (t_text : Nat → Int32) (E_t_told : Nat → Int32) (K : ∀ (H : Heap) (locs : List Loc) (ls : Array Slot), va_P G.1 vwCl [(q_t, .inr (9, [.ref q_t_z, .ref q_t_old, .ref q_t_past, .int t_states, .ref q_t_kept, .int t_isKept, .ref q_t_text, .int t_length, .ref q_t_order, .ref q_t_told, .int t_spot, .int t_toldRows, .ref q_t_rowsTaken, .ref q_t_columnsTaken, .ref q_t_ways, .ref q_t_scaled, .ref q_t_rowFactors, .ref q_t_columnFactors, .ref q_t_rest, .ref q_t_diagonals, .ref q_t_weights])), (q_t_text, .inl (G.2 0, 100, .inl t_text)), (q_t_told, .inl (G.2 0, 49, .inl E_t_told))] H → va_D A0 [(q_t, .inr (9, [.ref q_t_z, .ref q_t_old, .ref q_t_past, .int t_states, .ref q_t_kept, .int t_isKept, .ref q_t_text, .int t_length, .ref q_t_order, .ref q_t_told, .int t_spot, .int t_toldRows, .ref q_t_rowsTaken, .ref q_t_columnsTaken, .ref q_t_ways, .ref q_t_scaled, .ref q_t_rowFactors, .ref q_t_columnFactors, .ref q_t_rest, .ref q_t_diagonals, .ref q_t_weights])), (q_t_text, .inl (G.2 0, 100, .inl t_text)), (q_t_told, .inl (G.2 0, 49, .inl E_t_told))] → va_S A0 H0 H locs → lv_has ls 2 [(0, .ref q_t)] → W p l e ({ frames := 5, cells := 0, slots := 0, locals := 113 } : Room) s m args below meth c H locs 0 0 Q (F0 m 26 ls [])) : ∀ (n : Nat) (x1 : Int32) (t_told : Nat → Int32), lpN (f_X10_readText_L1) n (x1, t_told) = some E_t_told → ∀ (H : Heap) (locs : List Loc) (ls : Array Slot), va_P G.1 vwCl [(q_t, .inr (9, [.ref q_t_z, .ref q_t_old, .ref q_t_past, .int t_states, .ref q_t_kept, .int t_isKept, .ref q_t_text, .int t_length, .ref q_t_order, .ref q_t_told, .int t_spot, .int t_toldRows, .ref q_t_rowsTaken, .ref q_t_columnsTaken, .ref q_t_ways, .ref q_t_scaled, .ref q_t_rowFactors, .ref q_t_columnFactors, .ref q_t_rest, .ref q_t_diagonals, .ref q_t_weights])), (q_t_text, .inl (G.2 0, 100, .inl t_text)), (q_t_told, .inl (G.2 0, 49, .inl t_told))] H → va_D A0 [(q_t, .inr (9, [.ref q_t_z, .ref q_t_old, .ref q_t_past, .int t_states, .ref q_t_kept, .int t_isKept, .ref q_t_text, .int t_length, .ref q_t_order, .ref q_t_told, .int t_spot, .int t_toldRows, .ref q_t_rowsTaken, .ref q_t_columnsTaken, .ref q_t_ways, .ref q_t_scaled, .ref q_t_rowFactors, .ref q_t_columnFactors, .ref q_t_rest, .ref q_t_diagonals, .ref q_t_weights])), (q_t_text, .inl (G.2 0, 100, .inl t_text)), (q_t_told, .inl (G.2 0, 49, .inl t_told))] → va_S A0 H0 H locs → lv_has ls 2 [(0, .ref q_t), (1, .int x1)] → W p l e ({ frames := 5, cells := 0, slots := 0, locals := 113 } : Room) s m args below meth c H locs 0 0 Q (F0 m 7 ls []) := by
  obtain ⟨hx, hb, hml, hown, hts⟩ := C
  intro n
  induction n with
  | zero => intro x1 t_told h; exact absurd h (fun h => lp_0 h)
  | succ n ih =>
    intro x1 t_told h H locs ls hP hD hS hl
    obtain ⟨y, h, hk⟩ := lp_s h
    rw [f_X10_readText_L1] at h
    refine lv_iload_n hx hb dX10_readText_7 rfl (lv_at hl 1 rfl) ?_
    refine lv_bipush (v := 49) hx hb dX10_readText_8 (by decide) ?_
    refine lv_icmp_ge (tgt := 26) hx hb dX10_readText_10 (by decide) (fun c_1 => ?_) (fun c_1 => ?_)
    · replace h := it_t h c_1
      obtain rfl := sm1 h
      obtain rfl := sm1 hk
      exact K H locs ls hP hD hS (lv_sub hl [0] rfl)
    · replace h := it_f h c_1
      refine lv_aload_n hx hb dX10_readText_13 rfl (lv_at hl 0 rfl) ?_
      refine va_get (D := G.1) (ci := 9) (v := .ref q_t_told) (C := RX10) (T := TX10) (N := 21) hx hb hts wi_X10_readText_X10 hown hK hP 0 rfl rfl 9 (by decide) (hts _ wd_X10_readText_2) (fun _ h9 => h9) rfl dX10_readText_14 ?_
      refine lv_iload_n hx hb dX10_readText_17 rfl (lv_at hl 1 rfl) ?_
      refine lv_iconst (v := 0) hx hb dX10_readText_18 (by decide) ?_
      obtain ⟨g_2, h⟩ := gd_ok h
      obtain ⟨t_told_3, et_told_3, h⟩ := pl_ok h
      refine st_i (D := G.1) (wn := [(q_t, .inr (9, [.ref q_t_z, .ref q_t_old, .ref q_t_past, .int t_states, .ref q_t_kept, .int t_isKept, .ref q_t_text, .int t_length, .ref q_t_order, .ref q_t_told, .int t_spot, .int t_toldRows, .ref q_t_rowsTaken, .ref q_t_columnsTaken, .ref q_t_ways, .ref q_t_scaled, .ref q_t_rowFactors, .ref q_t_columnFactors, .ref q_t_rest, .ref q_t_diagonals, .ref q_t_weights])), (q_t_text, .inl (G.2 0, 100, .inl t_text)), (q_t_told, .inl (G.2 0, 49, .inl t_told_3))]) hx hb hK hP hD hS 2 0 rfl rfl g_2 dX10_readText_19 et_told_3 rfl (fun H locs hP hD hS => ?_)
      obtain ⟨x1_4, ex1_4, h⟩ := pl_ok h
      refine lv_iinc (v := x1_4) (lv' := [(1, .int x1_4), (0, .ref q_t)]) hx hb dX10_readText_20 hl (k := 1) rfl (by rw [ex1_4]; rfl) (by decide) rfl (fun ls hl => ?_)
      refine lv_goto (tgt := 7) hx hb dX10_readText_23 (by decide) ?_
      obtain rfl := sm1 h
      exact ih x1_4 t_told_3 hk H locs ls hP hD hS (lv_sub hl [1, 0] rfl)
set_option maxHeartbeats 4000000 in
set_option maxRecDepth 100000 in
theorem l_X10_readText_2 {p : Program} {l : Launch} {e : Env} {s : State} {m : MethodId} {args : Array Value} {below : List Frame} {meth : Method} {c : Code} {Q : State → Prop} {A0 : Nat → Prop} {H0 : Heap} (C : CallFix p m c cX10_readText 2 s args wsX10_readText RX10) (G : GT) (hK : gK G s) (hA : ∀ q : Nat, H0.size ≤ q → A0 q) (q_t q_t_z q_t_old q_t_past q_t_kept q_t_text q_t_order q_t_told q_t_rowsTaken q_t_columnsTaken q_t_ways q_t_scaled q_t_rowFactors q_t_columnFactors q_t_rest q_t_diagonals q_t_weights : Nat) (t_states : Int32) (t_isKept : Int32) (t_length : Int32) (t_toldRows : Int32) (t_text : Nat → Int32) (z : ((Int32 × (Nat → Int32)) ⊕ (Int32 × Int32 × Int32 × (Nat → Int32)))) (K : ∀ (E_t_spot : Int32), ∀ (E_t_told : Nat → Int32), z = .inl (E_t_spot, E_t_told) → ∀ (H : Heap) (locs : List Loc) (ls : Array Slot), va_P G.1 vwCl [(q_t, .inr (9, [.ref q_t_z, .ref q_t_old, .ref q_t_past, .int t_states, .ref q_t_kept, .int t_isKept, .ref q_t_text, .int t_length, .ref q_t_order, .ref q_t_told, .int E_t_spot, .int t_toldRows, .ref q_t_rowsTaken, .ref q_t_columnsTaken, .ref q_t_ways, .ref q_t_scaled, .ref q_t_rowFactors, .ref q_t_columnFactors, .ref q_t_rest, .ref q_t_diagonals, .ref q_t_weights])), (q_t_text, .inl (G.2 0, 100, .inl t_text)), (q_t_told, .inl (G.2 0, 49, .inl E_t_told))] H → va_D A0 [(q_t, .inr (9, [.ref q_t_z, .ref q_t_old, .ref q_t_past, .int t_states, .ref q_t_kept, .int t_isKept, .ref q_t_text, .int t_length, .ref q_t_order, .ref q_t_told, .int E_t_spot, .int t_toldRows, .ref q_t_rowsTaken, .ref q_t_columnsTaken, .ref q_t_ways, .ref q_t_scaled, .ref q_t_rowFactors, .ref q_t_columnFactors, .ref q_t_rest, .ref q_t_diagonals, .ref q_t_weights])), (q_t_text, .inl (G.2 0, 100, .inl t_text)), (q_t_told, .inl (G.2 0, 49, .inl E_t_told))] → va_S A0 H0 H locs → lv_has ls 2 [(0, .ref q_t)] → W p l e ({ frames := 5, cells := 0, slots := 0, locals := 113 } : Room) s m args below meth c H locs 0 0 Q (F0 m 91 ls [])) (KR : ∀ (r : Int32) (o_t_spot : Int32) (o_t_toldRows : Int32) (o_t_told : Nat → Int32), z = .inr (r, o_t_spot, o_t_toldRows, o_t_told) → ∀ (H : Heap) (locs : List Loc) (ls : Array Slot) (pc : Nat), decode cX10_readText pc = .ok (.ireturn, 1) → (r = 0 ∨ r = 1) → va_P G.1 vwCl [(q_t, .inr (9, [.ref q_t_z, .ref q_t_old, .ref q_t_past, .int t_states, .ref q_t_kept, .int t_isKept, .ref q_t_text, .int t_length, .ref q_t_order, .ref q_t_told, .int o_t_spot, .int o_t_toldRows, .ref q_t_rowsTaken, .ref q_t_columnsTaken, .ref q_t_ways, .ref q_t_scaled, .ref q_t_rowFactors, .ref q_t_columnFactors, .ref q_t_rest, .ref q_t_diagonals, .ref q_t_weights])), (q_t_text, .inl (G.2 0, 100, .inl t_text)), (q_t_told, .inl (G.2 0, 49, .inl o_t_told))] H → va_D A0 [(q_t, .inr (9, [.ref q_t_z, .ref q_t_old, .ref q_t_past, .int t_states, .ref q_t_kept, .int t_isKept, .ref q_t_text, .int t_length, .ref q_t_order, .ref q_t_told, .int o_t_spot, .int o_t_toldRows, .ref q_t_rowsTaken, .ref q_t_columnsTaken, .ref q_t_ways, .ref q_t_scaled, .ref q_t_rowFactors, .ref q_t_columnFactors, .ref q_t_rest, .ref q_t_diagonals, .ref q_t_weights])), (q_t_text, .inl (G.2 0, 100, .inl t_text)), (q_t_told, .inl (G.2 0, 49, .inl o_t_told))] → va_S A0 H0 H locs → W p l e ({ frames := 5, cells := 0, slots := 0, locals := 113 } : Room) s m args below meth c H locs 0 0 Q (F0 m pc ls [.int r])) : ∀ (n : Nat) (x1 : Int32) (t_spot : Int32) (t_told : Nat → Int32), lpN (f_X10_readText_L2 t_length t_toldRows t_text) n (x1, t_spot, t_told) = some z → ∀ (H : Heap) (locs : List Loc) (ls : Array Slot), va_P G.1 vwCl [(q_t, .inr (9, [.ref q_t_z, .ref q_t_old, .ref q_t_past, .int t_states, .ref q_t_kept, .int t_isKept, .ref q_t_text, .int t_length, .ref q_t_order, .ref q_t_told, .int t_spot, .int t_toldRows, .ref q_t_rowsTaken, .ref q_t_columnsTaken, .ref q_t_ways, .ref q_t_scaled, .ref q_t_rowFactors, .ref q_t_columnFactors, .ref q_t_rest, .ref q_t_diagonals, .ref q_t_weights])), (q_t_text, .inl (G.2 0, 100, .inl t_text)), (q_t_told, .inl (G.2 0, 49, .inl t_told))] H → va_D A0 [(q_t, .inr (9, [.ref q_t_z, .ref q_t_old, .ref q_t_past, .int t_states, .ref q_t_kept, .int t_isKept, .ref q_t_text, .int t_length, .ref q_t_order, .ref q_t_told, .int t_spot, .int t_toldRows, .ref q_t_rowsTaken, .ref q_t_columnsTaken, .ref q_t_ways, .ref q_t_scaled, .ref q_t_rowFactors, .ref q_t_columnFactors, .ref q_t_rest, .ref q_t_diagonals, .ref q_t_weights])), (q_t_text, .inl (G.2 0, 100, .inl t_text)), (q_t_told, .inl (G.2 0, 49, .inl t_told))] → va_S A0 H0 H locs → lv_has ls 2 [(0, .ref q_t), (1, .int x1)] → W p l e ({ frames := 5, cells := 0, slots := 0, locals := 113 } : Room) s m args below meth c H locs 0 0 Q (F0 m 50 ls []) := by
  obtain ⟨hx, hb, hml, hown, hts⟩ := C
  intro n
  induction n with
  | zero => intro x1 t_spot t_told h; exact absurd h (fun h => lp_0 h)
  | succ n ih =>
    intro x1 t_spot t_told h H locs ls hP hD hS hl
    obtain ⟨y, h, hk⟩ := lp_s h
    rw [f_X10_readText_L2] at h
    refine lv_iload_n hx hb dX10_readText_50 rfl (lv_at hl 1 rfl) ?_
    refine lv_aload_n hx hb dX10_readText_51 rfl (lv_at hl 0 rfl) ?_
    refine va_get (D := G.1) (ci := 9) (v := .int t_toldRows) (C := RX10) (T := TX10) (N := 21) hx hb hts wi_X10_readText_X10 hown hK hP 0 rfl rfl 11 (by decide) (hts _ wd_X10_readText_3) (fun _ h9 => h9) rfl dX10_readText_52 ?_
    refine lv_icmp_ge (tgt := 91) hx hb dX10_readText_55 (by decide) (fun c_13 => ?_) (fun c_13 => ?_)
    · replace h := it_t h c_13
      obtain rfl := sm1 h
      obtain rfl := sm1 hk
      exact K t_spot t_told rfl H locs ls hP hD hS (lv_sub hl [0] rfl)
    · replace h := it_f h c_13
      refine lv_aload_n hx hb dX10_readText_58 rfl (lv_at hl 0 rfl) ?_
      refine lv_bipush (v := 47) hx hb dX10_readText_59 (by decide) ?_
      obtain ⟨⟨r_15, t_spot_14⟩, hf_16, h⟩ := bd_ok h
      refine ck_Vi (rest := []) (wn := [(q_t, .inr (9, [.ref q_t_z, .ref q_t_old, .ref q_t_past, .int t_states, .ref q_t_kept, .int t_isKept, .ref q_t_text, .int t_length, .ref q_t_order, .ref q_t_told, .int t_spot_14, .int t_toldRows, .ref q_t_rowsTaken, .ref q_t_columnsTaken, .ref q_t_ways, .ref q_t_scaled, .ref q_t_rowFactors, .ref q_t_columnFactors, .ref q_t_rest, .ref q_t_diagonals, .ref q_t_weights])), (q_t_text, .inl (G.2 0, 100, .inl t_text)), (q_t_told, .inl (G.2 0, 49, .inl t_told))]) ⟨hx, hb, hml, hown, hts⟩ hK hP hD hS hA [0, 1] [2] [1, 2, 0] (c_X10_takes l G q_t q_t_z q_t_old q_t_past q_t_kept q_t_text q_t_order q_t_told q_t_rowsTaken q_t_columnsTaken q_t_ways q_t_scaled q_t_rowFactors q_t_columnFactors q_t_rest q_t_diagonals q_t_weights _ t_states t_isKept t_length t_spot t_toldRows t_text (47 : Int32) _ _ hf_16) (cwV 1 hts gX10_readText_X10_takes rfl rfl rfl (by decide +kernel) ⟨Nat.le_of_ble_eq_true rfl, Nat.le_of_ble_eq_true rfl⟩) rfl rfl rfl rfl rfl rfl (by decide) rfl rfl rfl hl.1 rfl (Nat.le_of_ble_eq_true rfl) dX10_readText_61 ⟨Nat.zero_le _, Nat.zero_le _⟩ (fun H locs hP hD hS => ?_)
      refine lv_if_eq (tgt := 83) hx hb dX10_readText_64 (by decide) (fun c_17 => ?_) (fun c_17 => ?_)
      · replace h := it_t h c_17
        refine lv_iconst (v := 0) hx hb dX10_readText_83 (by decide) ?_
        obtain rfl := sm1 h
        obtain rfl := sm1 hk
        exact KR (0 : Int32) t_spot_14 t_toldRows t_told rfl H locs ls 84 dX10_readText_84 (Or.inl rfl) hP hD hS
      · replace h := it_f h c_17
        refine lv_aload_n hx hb dX10_readText_67 rfl (lv_at hl 0 rfl) ?_
        refine lv_iload_n hx hb dX10_readText_68 rfl (lv_at hl 1 rfl) ?_
        refine lv_aload_n hx hb dX10_readText_69 rfl (lv_at hl 0 rfl) ?_
        refine va_get (D := G.1) (ci := 9) (v := .int t_toldRows) (C := RX10) (T := TX10) (N := 21) hx hb hts wi_X10_readText_X10 hown hK hP 0 rfl rfl 11 (by decide) (hts _ wd_X10_readText_3) (fun _ h9 => h9) rfl dX10_readText_70 ?_
        obtain ⟨⟨r_20, t_spot_18, t_told_19⟩, hf_21, h⟩ := bd_ok h
        refine ck_Vi (rest := []) (wn := [(q_t, .inr (9, [.ref q_t_z, .ref q_t_old, .ref q_t_past, .int t_states, .ref q_t_kept, .int t_isKept, .ref q_t_text, .int t_length, .ref q_t_order, .ref q_t_told, .int t_spot_18, .int t_toldRows, .ref q_t_rowsTaken, .ref q_t_columnsTaken, .ref q_t_ways, .ref q_t_scaled, .ref q_t_rowFactors, .ref q_t_columnFactors, .ref q_t_rest, .ref q_t_diagonals, .ref q_t_weights])), (q_t_text, .inl (G.2 0, 100, .inl t_text)), (q_t_told, .inl (G.2 0, 49, .inl t_told_19))]) ⟨hx, hb, hml, hown, hts⟩ hK hP hD hS hA [0, 1, 2] [] [0, 1, 2] (c_X10_readRow l G q_t q_t_z q_t_old q_t_past q_t_kept q_t_text q_t_order q_t_told q_t_rowsTaken q_t_columnsTaken q_t_ways q_t_scaled q_t_rowFactors q_t_columnFactors q_t_rest q_t_diagonals q_t_weights _ t_states t_isKept t_length t_spot_14 t_toldRows t_text t_told x1 t_toldRows _ _ _ hf_21) (cwV 2 hts gX10_readText_X10_readRow rfl rfl rfl (by decide +kernel) ⟨Nat.le_of_ble_eq_true rfl, Nat.le_of_ble_eq_true rfl⟩) rfl rfl rfl rfl rfl rfl (by decide) rfl rfl rfl hl.1 rfl (Nat.le_of_ble_eq_true rfl) dX10_readText_73 ⟨Nat.zero_le _, Nat.zero_le _⟩ (fun H locs hP hD hS => ?_)
        refine lv_aload_n hx hb dX10_readText_76 rfl (lv_at hl 0 rfl) ?_
        refine va_get (D := G.1) (ci := 9) (v := .int t_toldRows) (C := RX10) (T := TX10) (N := 21) hx hb hts wi_X10_readText_X10 hown hK hP 0 rfl rfl 11 (by decide) (hts _ wd_X10_readText_3) (fun _ h9 => h9) rfl dX10_readText_77 ?_
        refine lv_icmp_eq (tgt := 85) hx hb dX10_readText_80 (by decide) (fun c_22 => ?_) (fun c_22 => ?_)
        · replace h := it_t h c_22
          obtain ⟨x1_23, ex1_23, h⟩ := pl_ok h
          refine lv_iinc (v := x1_23) (lv' := [(1, .int x1_23), (0, .ref q_t)]) hx hb dX10_readText_85 hl (k := 1) rfl (by rw [ex1_23]; rfl) (by decide) rfl (fun ls hl => ?_)
          refine lv_goto (tgt := 50) hx hb dX10_readText_88 (by decide) ?_
          obtain rfl := sm1 h
          exact ih x1_23 t_spot_18 t_told_19 hk H locs ls hP hD hS (lv_sub hl [1, 0] rfl)
        · replace h := it_f h c_22
          refine lv_iconst (v := 0) hx hb dX10_readText_83 (by decide) ?_
          obtain rfl := sm1 h
          obtain rfl := sm1 hk
          exact KR (0 : Int32) t_spot_18 t_toldRows t_told_19 rfl H locs ls 84 dX10_readText_84 (Or.inl rfl) hP hD hS
set_option maxHeartbeats 4000000 in
set_option maxRecDepth 100000 in
theorem k_X10_readText {p : Program} {l : Launch} {e : Env} {s : State} {m : MethodId} {args : Array Value} {below : List Frame} {meth : Method} {c : Code} {Q : State → Prop} {A0 : Nat → Prop} {H0 : Heap} (C : CallFix p m c cX10_readText 2 s args wsX10_readText RX10) (G : GT) (hK : gK G s) (hA : ∀ q : Nat, H0.size ≤ q → A0 q) (q_t q_t_z q_t_old q_t_past q_t_kept q_t_text q_t_order q_t_told q_t_rowsTaken q_t_columnsTaken q_t_ways q_t_scaled q_t_rowFactors q_t_columnFactors q_t_rest q_t_diagonals q_t_weights : Nat) (t_states : Int32) (t_isKept : Int32) (t_length : Int32) (t_spot : Int32) (t_toldRows : Int32) (t_text : Nat → Int32) (t_told : Nat → Int32) (r : Int32) (o_t_spot : Int32) (o_t_toldRows : Int32) (o_t_told : Nat → Int32) (h : f_X10_readText t_length t_spot t_toldRows t_text t_told = some (r, o_t_spot, o_t_toldRows, o_t_told)) (KR : ∀ (H : Heap) (locs : List Loc) (ls : Array Slot) (pc : Nat), decode cX10_readText pc = .ok (.ireturn, 1) → (r = 0 ∨ r = 1) → va_P G.1 vwCl [(q_t, .inr (9, [.ref q_t_z, .ref q_t_old, .ref q_t_past, .int t_states, .ref q_t_kept, .int t_isKept, .ref q_t_text, .int t_length, .ref q_t_order, .ref q_t_told, .int o_t_spot, .int o_t_toldRows, .ref q_t_rowsTaken, .ref q_t_columnsTaken, .ref q_t_ways, .ref q_t_scaled, .ref q_t_rowFactors, .ref q_t_columnFactors, .ref q_t_rest, .ref q_t_diagonals, .ref q_t_weights])), (q_t_text, .inl (G.2 0, 100, .inl t_text)), (q_t_told, .inl (G.2 0, 49, .inl o_t_told))] H → va_D A0 [(q_t, .inr (9, [.ref q_t_z, .ref q_t_old, .ref q_t_past, .int t_states, .ref q_t_kept, .int t_isKept, .ref q_t_text, .int t_length, .ref q_t_order, .ref q_t_told, .int o_t_spot, .int o_t_toldRows, .ref q_t_rowsTaken, .ref q_t_columnsTaken, .ref q_t_ways, .ref q_t_scaled, .ref q_t_rowFactors, .ref q_t_columnFactors, .ref q_t_rest, .ref q_t_diagonals, .ref q_t_weights])), (q_t_text, .inl (G.2 0, 100, .inl t_text)), (q_t_told, .inl (G.2 0, 49, .inl o_t_told))] → va_S A0 H0 H locs → W p l e ({ frames := 5, cells := 0, slots := 0, locals := 113 } : Room) s m args below meth c H locs 0 0 Q (F0 m pc ls [.int r])) : ∀ (H : Heap) (locs : List Loc) (ls : Array Slot), va_P G.1 vwCl [(q_t, .inr (9, [.ref q_t_z, .ref q_t_old, .ref q_t_past, .int t_states, .ref q_t_kept, .int t_isKept, .ref q_t_text, .int t_length, .ref q_t_order, .ref q_t_told, .int t_spot, .int t_toldRows, .ref q_t_rowsTaken, .ref q_t_columnsTaken, .ref q_t_ways, .ref q_t_scaled, .ref q_t_rowFactors, .ref q_t_columnFactors, .ref q_t_rest, .ref q_t_diagonals, .ref q_t_weights])), (q_t_text, .inl (G.2 0, 100, .inl t_text)), (q_t_told, .inl (G.2 0, 49, .inl t_told))] H → va_D A0 [(q_t, .inr (9, [.ref q_t_z, .ref q_t_old, .ref q_t_past, .int t_states, .ref q_t_kept, .int t_isKept, .ref q_t_text, .int t_length, .ref q_t_order, .ref q_t_told, .int t_spot, .int t_toldRows, .ref q_t_rowsTaken, .ref q_t_columnsTaken, .ref q_t_ways, .ref q_t_scaled, .ref q_t_rowFactors, .ref q_t_columnFactors, .ref q_t_rest, .ref q_t_diagonals, .ref q_t_weights])), (q_t_text, .inl (G.2 0, 100, .inl t_text)), (q_t_told, .inl (G.2 0, 49, .inl t_told))] → va_S A0 H0 H locs → lv_has ls 2 [(0, .ref q_t)] → W p l e ({ frames := 5, cells := 0, slots := 0, locals := 113 } : Room) s m args below meth c H locs 0 0 Q (F0 m 0 ls []) := by
  obtain ⟨hx, hb, hml, hown, hts⟩ := C
  intro H locs ls hP hD hS hl
  rw [f_X10_readText] at h
  refine lv_aload_n hx hb dX10_readText_0 rfl (lv_at hl 0 rfl) ?_
  refine lv_iconst (v := 0) hx hb dX10_readText_1 (by decide) ?_
  refine st_put (D := G.1) (ci := 9) (v := .int (0 : Int32)) (ty := .int) (C := RX10) (T := TX10) (N := 21) (wn := [(q_t, .inr (9, [.ref q_t_z, .ref q_t_old, .ref q_t_past, .int t_states, .ref q_t_kept, .int t_isKept, .ref q_t_text, .int t_length, .ref q_t_order, .ref q_t_told, .int (0 : Int32), .int t_toldRows, .ref q_t_rowsTaken, .ref q_t_columnsTaken, .ref q_t_ways, .ref q_t_scaled, .ref q_t_rowFactors, .ref q_t_columnFactors, .ref q_t_rest, .ref q_t_diagonals, .ref q_t_weights])), (q_t_text, .inl (G.2 0, 100, .inl t_text)), (q_t_told, .inl (G.2 0, 49, .inl t_told))]) hx hb hts wi_X10_readText_X10 tyX10 tyX10_ok nmX10 hown hK hP hD hS 0 rfl rfl 10 (by decide) (hts _ wd_X10_readText_1) (fun _ h9 => h9) rfl (by decide +kernel) rfl rfl (Nat.le_of_ble_eq_true rfl) dX10_readText_2 rfl (fun H locs hP hD hS => ?_)
  refine lv_iconst (v := 0) hx hb dX10_readText_5 (by decide) ?_
  refine lv_istore_n (lv' := [(1, .int (0 : Int32)), (0, .ref q_t)]) hx hb dX10_readText_6 rfl hl (by decide) rfl (fun ls hl => ?_)
  obtain ⟨t_told_5, hz_7, h⟩ := bd_ok h
  refine l_X10_readText_1 ⟨hx, hb, hml, hown, hts⟩ G hK hA q_t q_t_z q_t_old q_t_past q_t_kept q_t_text q_t_order q_t_told q_t_rowsTaken q_t_columnsTaken q_t_ways q_t_scaled q_t_rowFactors q_t_columnFactors q_t_rest q_t_diagonals q_t_weights t_states t_isKept t_length (0 : Int32) t_toldRows t_text t_told_5 ?_ FU (0 : Int32) t_told hz_7 H locs ls hP hD hS (lv_sub hl [1, 0] rfl)
  intro H locs ls hP hD hS hl
  refine lv_aload_n hx hb dX10_readText_26 rfl (lv_at hl 0 rfl) ?_
  refine lv_aload_n hx hb dX10_readText_27 rfl (lv_at hl 0 rfl) ?_
  refine lv_iconst (v := 0) hx hb dX10_readText_28 (by decide) ?_
  refine lv_bipush (v := 7) hx hb dX10_readText_29 (by decide) ?_
  obtain ⟨⟨r_10, t_spot_8, t_told_9⟩, hf_11, h⟩ := bd_ok h
  refine ck_Vi (rest := [.ref q_t]) (wn := [(q_t, .inr (9, [.ref q_t_z, .ref q_t_old, .ref q_t_past, .int t_states, .ref q_t_kept, .int t_isKept, .ref q_t_text, .int t_length, .ref q_t_order, .ref q_t_told, .int t_spot_8, .int t_toldRows, .ref q_t_rowsTaken, .ref q_t_columnsTaken, .ref q_t_ways, .ref q_t_scaled, .ref q_t_rowFactors, .ref q_t_columnFactors, .ref q_t_rest, .ref q_t_diagonals, .ref q_t_weights])), (q_t_text, .inl (G.2 0, 100, .inl t_text)), (q_t_told, .inl (G.2 0, 49, .inl t_told_9))]) ⟨hx, hb, hml, hown, hts⟩ hK hP hD hS hA [0, 1, 2] [] [0, 1, 2] (c_X10_readRow l G q_t q_t_z q_t_old q_t_past q_t_kept q_t_text q_t_order q_t_told q_t_rowsTaken q_t_columnsTaken q_t_ways q_t_scaled q_t_rowFactors q_t_columnFactors q_t_rest q_t_diagonals q_t_weights _ t_states t_isKept t_length (0 : Int32) t_toldRows t_text t_told_5 (0 : Int32) (7 : Int32) _ _ _ hf_11) (cwV 2 hts gX10_readText_X10_readRow rfl rfl rfl (by decide +kernel) ⟨Nat.le_of_ble_eq_true rfl, Nat.le_of_ble_eq_true rfl⟩) rfl rfl rfl rfl rfl rfl (by decide) rfl rfl rfl hl.1 rfl (Nat.le_of_ble_eq_true rfl) dX10_readText_31 ⟨Nat.zero_le _, Nat.zero_le _⟩ (fun H locs hP hD hS => ?_)
  refine st_put (D := G.1) (ci := 9) (v := .int r_10) (ty := .int) (C := RX10) (T := TX10) (N := 21) (wn := [(q_t, .inr (9, [.ref q_t_z, .ref q_t_old, .ref q_t_past, .int t_states, .ref q_t_kept, .int t_isKept, .ref q_t_text, .int t_length, .ref q_t_order, .ref q_t_told, .int t_spot_8, .int r_10, .ref q_t_rowsTaken, .ref q_t_columnsTaken, .ref q_t_ways, .ref q_t_scaled, .ref q_t_rowFactors, .ref q_t_columnFactors, .ref q_t_rest, .ref q_t_diagonals, .ref q_t_weights])), (q_t_text, .inl (G.2 0, 100, .inl t_text)), (q_t_told, .inl (G.2 0, 49, .inl t_told_9))]) hx hb hts wi_X10_readText_X10 tyX10 tyX10_ok nmX10 hown hK hP hD hS 0 rfl rfl 11 (by decide) (hts _ wd_X10_readText_3) (fun _ h9 => h9) rfl (by decide +kernel) rfl rfl (Nat.le_of_ble_eq_true rfl) dX10_readText_34 rfl (fun H locs hP hD hS => ?_)
  refine lv_aload_n hx hb dX10_readText_37 rfl (lv_at hl 0 rfl) ?_
  refine va_get (D := G.1) (ci := 9) (v := .int r_10) (C := RX10) (T := TX10) (N := 21) hx hb hts wi_X10_readText_X10 hown hK hP 0 rfl rfl 11 (by decide) (hts _ wd_X10_readText_3) (fun _ h9 => h9) rfl dX10_readText_38 ?_
  refine lv_ldc (v := -2000000005) hx hb hown (hts _ wd_X10_readText_4) dX10_readText_41 ?_
  refine lv_icmp_ne (tgt := 48) hx hb dX10_readText_43 (by decide) (fun c_12 => ?_) (fun c_12 => ?_)
  · replace h := it_f h c_12
    refine lv_iconst (v := 1) hx hb dX10_readText_48 (by decide) ?_
    refine lv_istore_n (lv' := [(1, .int (1 : Int32)), (0, .ref q_t)]) hx hb dX10_readText_49 rfl hl (by decide) rfl (fun ls hl => ?_)
    obtain ⟨z_26, hz_27, h⟩ := bd_ok h
    refine l_X10_readText_2 ⟨hx, hb, hml, hown, hts⟩ G hK hA q_t q_t_z q_t_old q_t_past q_t_kept q_t_text q_t_order q_t_told q_t_rowsTaken q_t_columnsTaken q_t_ways q_t_scaled q_t_rowFactors q_t_columnFactors q_t_rest q_t_diagonals q_t_weights t_states t_isKept t_length r_10 t_text z_26 ?_ ?_ FU (1 : Int32) t_spot_8 t_told_9 hz_27 H locs ls hP hD hS (lv_sub hl [1, 0] rfl)
    · intro t_spot_24 t_told_25 hz H locs ls hP hD hS hl
      subst hz
      refine lv_aload_n hx hb dX10_readText_91 rfl (lv_at hl 0 rfl) ?_
      refine va_get (D := G.1) (ci := 9) (v := .int t_spot_24) (C := RX10) (T := TX10) (N := 21) hx hb hts wi_X10_readText_X10 hown hK hP 0 rfl rfl 10 (by decide) (hts _ wd_X10_readText_1) (fun _ h9 => h9) rfl dX10_readText_92 ?_
      refine lv_aload_n hx hb dX10_readText_95 rfl (lv_at hl 0 rfl) ?_
      refine va_get (D := G.1) (ci := 9) (v := .int t_length) (C := RX10) (T := TX10) (N := 21) hx hb hts wi_X10_readText_X10 hown hK hP 0 rfl rfl 7 (by decide) (hts _ wd_X10_readText_5) (fun _ h9 => h9) rfl dX10_readText_96 ?_
      refine lv_icmp_ne (tgt := 106) hx hb dX10_readText_99 (by decide) (fun c_28 => ?_) (fun c_28 => ?_)
      · replace h := it_f h c_28
        refine lv_iconst (v := 0) hx hb dX10_readText_106 (by decide) ?_
        obtain ⟨rfl, rfl, rfl, rfl⟩ := sm4 h
        exact KR H locs ls 107 dX10_readText_107 (Or.inl rfl) hP hD hS
      · replace h := it_t h c_28
        refine lv_iconst (v := 1) hx hb dX10_readText_102 (by decide) ?_
        refine lv_goto (tgt := 107) hx hb dX10_readText_103 (by decide) ?_
        obtain ⟨rfl, rfl, rfl, rfl⟩ := sm4 h
        exact KR H locs ls 107 dX10_readText_107 (Or.inr rfl) hP hD hS
    · intro r_29 t_spot_30 t_toldRows_31 t_told_32 hz H locs ls pc hd hbo hP hD hS
      subst hz
      obtain ⟨rfl, rfl, rfl, rfl⟩ := sm4 h
      exact KR H locs ls pc hd hbo hP hD hS
  · replace h := it_t h c_12
    refine lv_iconst (v := 0) hx hb dX10_readText_46 (by decide) ?_
    obtain ⟨rfl, rfl, rfl, rfl⟩ := sm4 h
    exact KR H locs ls 47 dX10_readText_47 (Or.inl rfl) hP hD hS
set_option maxHeartbeats 4000000 in
set_option maxRecDepth 100000 in
theorem c_X10_readText (l : Launch) (G : GT) (q_t q_t_z q_t_old q_t_past q_t_kept q_t_text q_t_order q_t_told q_t_rowsTaken q_t_columnsTaken q_t_ways q_t_scaled q_t_rowFactors q_t_columnFactors q_t_rest q_t_diagonals q_t_weights : Nat) (sz : Nat) (t_states : Int32) (t_isKept : Int32) (t_length : Int32) (t_spot : Int32) (t_toldRows : Int32) (t_text : Nat → Int32) (t_told : Nat → Int32) (r : Int32) (o_t_spot : Int32) (o_t_toldRows : Int32) (o_t_told : Nat → Int32) (h : f_X10_readText t_length t_spot t_toldRows t_text t_told = some (r, o_t_spot, o_t_toldRows, o_t_told)) : Met l yX10_readText wsX10_readText ({ frames := 5, cells := 0, slots := 0, locals := 113 } : Room) (va_Pc [.ref q_t] (pcW G [(q_t, .inr (9, [.ref q_t_z, .ref q_t_old, .ref q_t_past, .int t_states, .ref q_t_kept, .int t_isKept, .ref q_t_text, .int t_length, .ref q_t_order, .ref q_t_told, .int t_spot, .int t_toldRows, .ref q_t_rowsTaken, .ref q_t_columnsTaken, .ref q_t_ways, .ref q_t_scaled, .ref q_t_rowFactors, .ref q_t_columnFactors, .ref q_t_rest, .ref q_t_diagonals, .ref q_t_weights])), (q_t_text, .inl (G.2 0, 100, .inl t_text)), (q_t_told, .inl (G.2 0, 49, .inl t_told))] sz)) (va_Qi (fun r9 (_ : Unit) => r9 = r) (fun _ t => atW G (va_A [(q_t, .inr (9, [.ref q_t_z, .ref q_t_old, .ref q_t_past, .int t_states, .ref q_t_kept, .int t_isKept, .ref q_t_text, .int t_length, .ref q_t_order, .ref q_t_told, .int t_spot, .int t_toldRows, .ref q_t_rowsTaken, .ref q_t_columnsTaken, .ref q_t_ways, .ref q_t_scaled, .ref q_t_rowFactors, .ref q_t_columnFactors, .ref q_t_rest, .ref q_t_diagonals, .ref q_t_weights])), (q_t_text, .inl (G.2 0, 100, .inl t_text)), (q_t_told, .inl (G.2 0, 49, .inl t_told))] sz) [(q_t, .inr (9, [.ref q_t_z, .ref q_t_old, .ref q_t_past, .int t_states, .ref q_t_kept, .int t_isKept, .ref q_t_text, .int t_length, .ref q_t_order, .ref q_t_told, .int o_t_spot, .int o_t_toldRows, .ref q_t_rowsTaken, .ref q_t_columnsTaken, .ref q_t_ways, .ref q_t_scaled, .ref q_t_rowFactors, .ref q_t_columnFactors, .ref q_t_rest, .ref q_t_diagonals, .ref q_t_weights])), (q_t_text, .inl (G.2 0, 100, .inl t_text)), (q_t_told, .inl (G.2 0, 49, .inl o_t_told))] t) (va_A [(q_t, .inr (9, [.ref q_t_z, .ref q_t_old, .ref q_t_past, .int t_states, .ref q_t_kept, .int t_isKept, .ref q_t_text, .int t_length, .ref q_t_order, .ref q_t_told, .int t_spot, .int t_toldRows, .ref q_t_rowsTaken, .ref q_t_columnsTaken, .ref q_t_ways, .ref q_t_scaled, .ref q_t_rowFactors, .ref q_t_columnFactors, .ref q_t_rest, .ref q_t_diagonals, .ref q_t_weights])), (q_t_text, .inl (G.2 0, 100, .inl t_text)), (q_t_told, .inl (G.2 0, 49, .inl t_told))] sz)) 0 0 (va_A [(q_t, .inr (9, [.ref q_t_z, .ref q_t_old, .ref q_t_past, .int t_states, .ref q_t_kept, .int t_isKept, .ref q_t_text, .int t_length, .ref q_t_order, .ref q_t_told, .int t_spot, .int t_toldRows, .ref q_t_rowsTaken, .ref q_t_columnsTaken, .ref q_t_ways, .ref q_t_scaled, .ref q_t_rowFactors, .ref q_t_columnFactors, .ref q_t_rest, .ref q_t_diagonals, .ref q_t_weights])), (q_t_text, .inl (G.2 0, 100, .inl t_text)), (q_t_told, .inl (G.2 0, 49, .inl t_told))] sz) := by
  refine Met.ofW (cc := cX10_readText) (maxL := 2) (ret := (some .boolean)) (by decide) rfl ?_
  intro p e s m args below meth c s₁ B hml hv
  obtain ⟨rfl, hsz, hP, hK, hD0⟩ := hv
  subst hsz
  have hD := hD0.self (sz := s.heap.size)
  generalize hAe : va_A [(q_t, .inr (9, [.ref q_t_z, .ref q_t_old, .ref q_t_past, .int t_states, .ref q_t_kept, .int t_isKept, .ref q_t_text, .int t_length, .ref q_t_order, .ref q_t_told, .int t_spot, .int t_toldRows, .ref q_t_rowsTaken, .ref q_t_columnsTaken, .ref q_t_ways, .ref q_t_scaled, .ref q_t_rowFactors, .ref q_t_columnFactors, .ref q_t_rest, .ref q_t_diagonals, .ref q_t_weights])), (q_t_text, .inl (G.2 0, 100, .inl t_text)), (q_t_told, .inl (G.2 0, 49, .inl t_told))] s.heap.size = A at hD ⊢
  have hA : ∀ q : Nat, s.heap.size ≤ q → A q := fun q h => by rw [← hAe]; exact Or.inr h
  have hl := lv_entry ([.ref q_t]) (n := 2) (Nat.le_of_ble_eq_true rfl)
  rw [lg_entry_eq]
  refine k_X10_readText ⟨B.exec, B.bytes, hml, findClass_of_methodNamed B.named, atoms_spec (ws := wsX10_readText) B.pre⟩ G hK hA q_t q_t_z q_t_old q_t_past q_t_kept q_t_text q_t_order q_t_told q_t_rowsTaken q_t_columnsTaken q_t_ways q_t_scaled q_t_rowFactors q_t_columnFactors q_t_rest q_t_diagonals q_t_weights _ _ _ _ _ _ _ _ _ _ _ h ?_ _ _ _ hP hD va_S.rf hl
  intro H locs ls pc hd hbo hP hD hS
  exact W.zret B.exec B.bytes B.returns (by rcases hbo with e | e <;> subst e <;> rfl) (fun t ht hW => ⟨⟨r, (), rfl, rfl, by rw [ht]; exact hP, hD⟩, hS.F ht⟩) hS.2.2 hd B.notSynchronized
set_option maxRecDepth 20000 in
theorem wd_X10_read_2 : Cond.fieldLink RX10 28 "PermanentDeskModel" "told" "[I" ∈ wsX10_read := List.mem_of_getElem? (i := 2) (by decide +kernel)
set_option maxRecDepth 20000 in
theorem wi_X10_read_X10 : ∀ w ∈ u_ws RX10 TX10 21, w ∈ wsX10_read := by decide +kernel
set_option maxRecDepth 20000 in
theorem wd_X10_read_3 : Cond.fieldLink RX10 7 "PermanentDeskModel" "z" "[I" ∈ wsX10_read := List.mem_of_getElem? (i := 3) (by decide +kernel)
set_option maxRecDepth 20000 in
theorem wd_X10_read_4 : Cond.fieldLink RX10 132 "PermanentDeskModel" "toldRows" "I" ∈ wsX10_read := List.mem_of_getElem? (i := 4) (by decide +kernel)
set_option maxRecDepth 20000 in
theorem wd_X10_read_1 : Cond.fieldLink RX10 116 "PermanentDeskModel" "spot" "I" ∈ wsX10_read := List.mem_of_getElem? (i := 1) (by decide +kernel)
def f_X10_read (t_states : Int32) (t_length : Int32) (t_spot : Int32) (t_toldRows : Int32) (t_z : Nat → Int32) (t_past : Nat → Int32) (t_text : Nat → Int32) (t_told : Nat → Int32) : Option (Int32 × Int32 × Int32 × Int32 × (Nat → Int32) × (Nat → Int32) × (Nat → Int32)) :=
  (f_X10_readText t_length t_spot t_toldRows t_text t_told).bind (fun (r_4, t_spot_1, t_toldRows_2, t_told_3) =>
  if r_4 = 0 then
    some (((-100 : Int32) - t_spot_1), t_states, t_spot_1, t_toldRows_2, t_z, t_past, t_told_3)
  else
    (f_X10_record t_states t_z t_past).bind (fun (t_states_7, t_past_8) =>
    (f_X10_copyRow 49 50 t_told_3 t_z (0 : Int32) (0 : Int32) (49 : Int32)).bind (fun t_z_10 =>
    gd (okI (49 : Int32) 50) (
    pl ((upd t_z_10 (49 : Int32).toNatClampNeg t_toldRows_2) : Nat → Int32) (fun t_z_13 =>
    some (t_toldRows_2, t_states_7, t_spot_1, t_toldRows_2, t_z_13, t_past_8, t_told_3))))))
set_option maxHeartbeats 4000000 in
set_option maxRecDepth 100000 in
theorem k_X10_read {p : Program} {l : Launch} {e : Env} {s : State} {m : MethodId} {args : Array Value} {below : List Frame} {meth : Method} {c : Code} {Q : State → Prop} {A0 : Nat → Prop} {H0 : Heap} (C : CallFix p m c cX10_read 1 s args wsX10_read RX10) (G : GT) (hK : gK G s) (hA : ∀ q : Nat, H0.size ≤ q → A0 q) (q_t q_t_z q_t_old q_t_past q_t_kept q_t_text q_t_order q_t_told q_t_rowsTaken q_t_columnsTaken q_t_ways q_t_scaled q_t_rowFactors q_t_columnFactors q_t_rest q_t_diagonals q_t_weights : Nat) (t_states : Int32) (t_isKept : Int32) (t_length : Int32) (t_spot : Int32) (t_toldRows : Int32) (t_z : Nat → Int32) (t_past : Nat → Int32) (t_text : Nat → Int32) (t_told : Nat → Int32) (r : Int32) (o_t_states : Int32) (o_t_spot : Int32) (o_t_toldRows : Int32) (o_t_z : Nat → Int32) (o_t_past : Nat → Int32) (o_t_told : Nat → Int32) (h : f_X10_read t_states t_length t_spot t_toldRows t_z t_past t_text t_told = some (r, o_t_states, o_t_spot, o_t_toldRows, o_t_z, o_t_past, o_t_told)) (KR : ∀ (H : Heap) (locs : List Loc) (ls : Array Slot) (pc : Nat), decode cX10_read pc = .ok (.ireturn, 1) → va_P G.1 vwCl [(q_t, .inr (9, [.ref q_t_z, .ref q_t_old, .ref q_t_past, .int o_t_states, .ref q_t_kept, .int t_isKept, .ref q_t_text, .int t_length, .ref q_t_order, .ref q_t_told, .int o_t_spot, .int o_t_toldRows, .ref q_t_rowsTaken, .ref q_t_columnsTaken, .ref q_t_ways, .ref q_t_scaled, .ref q_t_rowFactors, .ref q_t_columnFactors, .ref q_t_rest, .ref q_t_diagonals, .ref q_t_weights])), (q_t_z, .inl (G.2 0, 50, .inl o_t_z)), (q_t_past, .inl (G.2 0, 200, .inl o_t_past)), (q_t_text, .inl (G.2 0, 100, .inl t_text)), (q_t_told, .inl (G.2 0, 49, .inl o_t_told))] H → va_D A0 [(q_t, .inr (9, [.ref q_t_z, .ref q_t_old, .ref q_t_past, .int o_t_states, .ref q_t_kept, .int t_isKept, .ref q_t_text, .int t_length, .ref q_t_order, .ref q_t_told, .int o_t_spot, .int o_t_toldRows, .ref q_t_rowsTaken, .ref q_t_columnsTaken, .ref q_t_ways, .ref q_t_scaled, .ref q_t_rowFactors, .ref q_t_columnFactors, .ref q_t_rest, .ref q_t_diagonals, .ref q_t_weights])), (q_t_z, .inl (G.2 0, 50, .inl o_t_z)), (q_t_past, .inl (G.2 0, 200, .inl o_t_past)), (q_t_text, .inl (G.2 0, 100, .inl t_text)), (q_t_told, .inl (G.2 0, 49, .inl o_t_told))] → va_S A0 H0 H locs → W p l e ({ frames := 6, cells := 0, slots := 0, locals := 134 } : Room) s m args below meth c H locs 0 0 Q (F0 m pc ls [.int r])) : ∀ (H : Heap) (locs : List Loc) (ls : Array Slot), va_P G.1 vwCl [(q_t, .inr (9, [.ref q_t_z, .ref q_t_old, .ref q_t_past, .int t_states, .ref q_t_kept, .int t_isKept, .ref q_t_text, .int t_length, .ref q_t_order, .ref q_t_told, .int t_spot, .int t_toldRows, .ref q_t_rowsTaken, .ref q_t_columnsTaken, .ref q_t_ways, .ref q_t_scaled, .ref q_t_rowFactors, .ref q_t_columnFactors, .ref q_t_rest, .ref q_t_diagonals, .ref q_t_weights])), (q_t_z, .inl (G.2 0, 50, .inl t_z)), (q_t_past, .inl (G.2 0, 200, .inl t_past)), (q_t_text, .inl (G.2 0, 100, .inl t_text)), (q_t_told, .inl (G.2 0, 49, .inl t_told))] H → va_D A0 [(q_t, .inr (9, [.ref q_t_z, .ref q_t_old, .ref q_t_past, .int t_states, .ref q_t_kept, .int t_isKept, .ref q_t_text, .int t_length, .ref q_t_order, .ref q_t_told, .int t_spot, .int t_toldRows, .ref q_t_rowsTaken, .ref q_t_columnsTaken, .ref q_t_ways, .ref q_t_scaled, .ref q_t_rowFactors, .ref q_t_columnFactors, .ref q_t_rest, .ref q_t_diagonals, .ref q_t_weights])), (q_t_z, .inl (G.2 0, 50, .inl t_z)), (q_t_past, .inl (G.2 0, 200, .inl t_past)), (q_t_text, .inl (G.2 0, 100, .inl t_text)), (q_t_told, .inl (G.2 0, 49, .inl t_told))] → va_S A0 H0 H locs → lv_has ls 1 [(0, .ref q_t)] → W p l e ({ frames := 6, cells := 0, slots := 0, locals := 134 } : Room) s m args below meth c H locs 0 0 Q (F0 m 0 ls []) := by
  obtain ⟨hx, hb, hml, hown, hts⟩ := C
  intro H locs ls hP hD hS hl
  rw [f_X10_read] at h
  refine lv_aload_n hx hb dX10_read_0 rfl (lv_at hl 0 rfl) ?_
  obtain ⟨⟨r_4, t_spot_1, t_toldRows_2, t_told_3⟩, hf_5, h⟩ := bd_ok h
  refine ck_Vi (rest := []) (wn := [(q_t, .inr (9, [.ref q_t_z, .ref q_t_old, .ref q_t_past, .int t_states, .ref q_t_kept, .int t_isKept, .ref q_t_text, .int t_length, .ref q_t_order, .ref q_t_told, .int t_spot_1, .int t_toldRows_2, .ref q_t_rowsTaken, .ref q_t_columnsTaken, .ref q_t_ways, .ref q_t_scaled, .ref q_t_rowFactors, .ref q_t_columnFactors, .ref q_t_rest, .ref q_t_diagonals, .ref q_t_weights])), (q_t_z, .inl (G.2 0, 50, .inl t_z)), (q_t_past, .inl (G.2 0, 200, .inl t_past)), (q_t_text, .inl (G.2 0, 100, .inl t_text)), (q_t_told, .inl (G.2 0, 49, .inl t_told_3))]) ⟨hx, hb, hml, hown, hts⟩ hK hP hD hS hA [0, 3, 4] [1, 2] [2, 0, 1, 3, 4] (c_X10_readText l G q_t q_t_z q_t_old q_t_past q_t_kept q_t_text q_t_order q_t_told q_t_rowsTaken q_t_columnsTaken q_t_ways q_t_scaled q_t_rowFactors q_t_columnFactors q_t_rest q_t_diagonals q_t_weights _ t_states t_isKept t_length t_spot t_toldRows t_text t_told _ _ _ _ hf_5) (cwV 0 hts gX10_read_X10_readText rfl rfl rfl (by decide +kernel) ⟨Nat.le_of_ble_eq_true rfl, Nat.le_of_ble_eq_true rfl⟩) rfl rfl rfl rfl rfl rfl (by decide) rfl rfl rfl hl.1 rfl (Nat.le_of_ble_eq_true rfl) dX10_read_1 ⟨Nat.zero_le _, Nat.zero_le _⟩ (fun H locs hP hD hS => ?_)
  refine lv_if_ne (tgt := 15) hx hb dX10_read_4 (by decide) (fun c_6 => ?_) (fun c_6 => ?_)
  · replace h := it_f h c_6
    refine lv_aload_n hx hb dX10_read_15 rfl (lv_at hl 0 rfl) ?_
    obtain ⟨⟨t_states_7, t_past_8⟩, hf_9, h⟩ := bd_ok h
    refine ck_Vv (rest := []) (wn := [(q_t, .inr (9, [.ref q_t_z, .ref q_t_old, .ref q_t_past, .int t_states_7, .ref q_t_kept, .int t_isKept, .ref q_t_text, .int t_length, .ref q_t_order, .ref q_t_told, .int t_spot_1, .int t_toldRows_2, .ref q_t_rowsTaken, .ref q_t_columnsTaken, .ref q_t_ways, .ref q_t_scaled, .ref q_t_rowFactors, .ref q_t_columnFactors, .ref q_t_rest, .ref q_t_diagonals, .ref q_t_weights])), (q_t_z, .inl (G.2 0, 50, .inl t_z)), (q_t_past, .inl (G.2 0, 200, .inl t_past_8)), (q_t_text, .inl (G.2 0, 100, .inl t_text)), (q_t_told, .inl (G.2 0, 49, .inl t_told_3))]) ⟨hx, hb, hml, hown, hts⟩ hK hP hD hS hA [0, 1, 2] [3, 4] [2, 3, 4, 0, 1] (c_X10_record l G q_t q_t_z q_t_old q_t_past q_t_kept q_t_text q_t_order q_t_told q_t_rowsTaken q_t_columnsTaken q_t_ways q_t_scaled q_t_rowFactors q_t_columnFactors q_t_rest q_t_diagonals q_t_weights _ t_states t_isKept t_length t_spot_1 t_toldRows_2 t_z t_past _ _ hf_9) (cwV 0 hts gX10_read_X10_record rfl rfl rfl (by decide +kernel) ⟨Nat.le_of_ble_eq_true rfl, Nat.le_of_ble_eq_true rfl⟩) rfl rfl rfl rfl rfl rfl (by decide) rfl rfl rfl hl.1 rfl (Nat.le_of_ble_eq_true rfl) dX10_read_16 ⟨Nat.zero_le _, Nat.zero_le _⟩ (fun H locs hP hD hS => ?_)
    refine lv_aload_n hx hb dX10_read_19 rfl (lv_at hl 0 rfl) ?_
    refine va_get (D := G.1) (ci := 9) (v := .ref q_t_told) (C := RX10) (T := TX10) (N := 21) hx hb hts wi_X10_read_X10 hown hK hP 0 rfl rfl 9 (by decide) (hts _ wd_X10_read_2) (fun _ h9 => h9) rfl dX10_read_20 ?_
    refine lv_iconst (v := 0) hx hb dX10_read_23 (by decide) ?_
    refine lv_aload_n hx hb dX10_read_24 rfl (lv_at hl 0 rfl) ?_
    refine va_get (D := G.1) (ci := 9) (v := .ref q_t_z) (C := RX10) (T := TX10) (N := 21) hx hb hts wi_X10_read_X10 hown hK hP 0 rfl rfl 0 (by decide) (hts _ wd_X10_read_3) (fun _ h9 => h9) rfl dX10_read_25 ?_
    refine lv_iconst (v := 0) hx hb dX10_read_28 (by decide) ?_
    refine lv_bipush (v := 49) hx hb dX10_read_29 (by decide) ?_
    obtain ⟨t_z_10, hf_11, h⟩ := bd_ok h
    refine ck_Sv (rest := []) (wn := [(q_t, .inr (9, [.ref q_t_z, .ref q_t_old, .ref q_t_past, .int t_states_7, .ref q_t_kept, .int t_isKept, .ref q_t_text, .int t_length, .ref q_t_order, .ref q_t_told, .int t_spot_1, .int t_toldRows_2, .ref q_t_rowsTaken, .ref q_t_columnsTaken, .ref q_t_ways, .ref q_t_scaled, .ref q_t_rowFactors, .ref q_t_columnFactors, .ref q_t_rest, .ref q_t_diagonals, .ref q_t_weights])), (q_t_z, .inl (G.2 0, 50, .inl t_z_10)), (q_t_past, .inl (G.2 0, 200, .inl t_past_8)), (q_t_text, .inl (G.2 0, 100, .inl t_text)), (q_t_told, .inl (G.2 0, 49, .inl t_told_3))]) ⟨hx, hb, hml, hown, hts⟩ hK hP hD hS hA [4, 1] [0, 2, 3] [0, 4, 1, 2, 3] (c_X10_copyRow l G q_t_told q_t_z _ 49 50 t_told_3 t_z (0 : Int32) (0 : Int32) (49 : Int32) _ hf_11) (cwS 5 hts gX10_read_X10_copyRow rfl rfl rfl (by decide +kernel) ⟨Nat.le_of_ble_eq_true rfl, Nat.le_of_ble_eq_true rfl⟩) rfl rfl rfl rfl (by decide) rfl rfl rfl hl.1 rfl (Nat.le_of_ble_eq_true rfl) dX10_read_31 ⟨Nat.zero_le _, Nat.zero_le _⟩ (fun H locs hP hD hS => ?_)
    refine lv_aload_n hx hb dX10_read_34 rfl (lv_at hl 0 rfl) ?_
    refine va_get (D := G.1) (ci := 9) (v := .ref q_t_z) (C := RX10) (T := TX10) (N := 21) hx hb hts wi_X10_read_X10 hown hK hP 0 rfl rfl 0 (by decide) (hts _ wd_X10_read_3) (fun _ h9 => h9) rfl dX10_read_35 ?_
    refine lv_bipush (v := 49) hx hb dX10_read_38 (by decide) ?_
    refine lv_aload_n hx hb dX10_read_40 rfl (lv_at hl 0 rfl) ?_
    refine va_get (D := G.1) (ci := 9) (v := .int t_toldRows_2) (C := RX10) (T := TX10) (N := 21) hx hb hts wi_X10_read_X10 hown hK hP 0 rfl rfl 11 (by decide) (hts _ wd_X10_read_4) (fun _ h9 => h9) rfl dX10_read_41 ?_
    obtain ⟨g_12, h⟩ := gd_ok h
    obtain ⟨t_z_13, et_z_13, h⟩ := pl_ok h
    refine st_i (D := G.1) (wn := [(q_t, .inr (9, [.ref q_t_z, .ref q_t_old, .ref q_t_past, .int t_states_7, .ref q_t_kept, .int t_isKept, .ref q_t_text, .int t_length, .ref q_t_order, .ref q_t_told, .int t_spot_1, .int t_toldRows_2, .ref q_t_rowsTaken, .ref q_t_columnsTaken, .ref q_t_ways, .ref q_t_scaled, .ref q_t_rowFactors, .ref q_t_columnFactors, .ref q_t_rest, .ref q_t_diagonals, .ref q_t_weights])), (q_t_z, .inl (G.2 0, 50, .inl t_z_13)), (q_t_past, .inl (G.2 0, 200, .inl t_past_8)), (q_t_text, .inl (G.2 0, 100, .inl t_text)), (q_t_told, .inl (G.2 0, 49, .inl t_told_3))]) hx hb hK hP hD hS 1 0 rfl rfl g_12 dX10_read_44 et_z_13 rfl (fun H locs hP hD hS => ?_)
    refine lv_aload_n hx hb dX10_read_45 rfl (lv_at hl 0 rfl) ?_
    refine va_get (D := G.1) (ci := 9) (v := .int t_toldRows_2) (C := RX10) (T := TX10) (N := 21) hx hb hts wi_X10_read_X10 hown hK hP 0 rfl rfl 11 (by decide) (hts _ wd_X10_read_4) (fun _ h9 => h9) rfl dX10_read_46 ?_
    obtain ⟨rfl, rfl, rfl, rfl, rfl, rfl, rfl⟩ := sm7 h
    exact KR H locs ls 49 dX10_read_49 hP hD hS
  · replace h := it_t h c_6
    refine lv_bipush (v := -100) hx hb dX10_read_7 (by decide) ?_
    refine lv_aload_n hx hb dX10_read_9 rfl (lv_at hl 0 rfl) ?_
    refine va_get (D := G.1) (ci := 9) (v := .int t_spot_1) (C := RX10) (T := TX10) (N := 21) hx hb hts wi_X10_read_X10 hown hK hP 0 rfl rfl 10 (by decide) (hts _ wd_X10_read_1) (fun _ h9 => h9) rfl dX10_read_10 ?_
    refine lv_isub hx hb dX10_read_13 ?_
    obtain ⟨rfl, rfl, rfl, rfl, rfl, rfl, rfl⟩ := sm7 h
    exact KR H locs ls 14 dX10_read_14 hP hD hS
set_option maxHeartbeats 4000000 in
set_option maxRecDepth 100000 in
theorem c_X10_read (l : Launch) (G : GT) (q_t q_t_z q_t_old q_t_past q_t_kept q_t_text q_t_order q_t_told q_t_rowsTaken q_t_columnsTaken q_t_ways q_t_scaled q_t_rowFactors q_t_columnFactors q_t_rest q_t_diagonals q_t_weights : Nat) (sz : Nat) (t_states : Int32) (t_isKept : Int32) (t_length : Int32) (t_spot : Int32) (t_toldRows : Int32) (t_z : Nat → Int32) (t_past : Nat → Int32) (t_text : Nat → Int32) (t_told : Nat → Int32) (r : Int32) (o_t_states : Int32) (o_t_spot : Int32) (o_t_toldRows : Int32) (o_t_z : Nat → Int32) (o_t_past : Nat → Int32) (o_t_told : Nat → Int32) (h : f_X10_read t_states t_length t_spot t_toldRows t_z t_past t_text t_told = some (r, o_t_states, o_t_spot, o_t_toldRows, o_t_z, o_t_past, o_t_told)) : Met l yX10_read wsX10_read ({ frames := 6, cells := 0, slots := 0, locals := 134 } : Room) (va_Pc [.ref q_t] (pcW G [(q_t, .inr (9, [.ref q_t_z, .ref q_t_old, .ref q_t_past, .int t_states, .ref q_t_kept, .int t_isKept, .ref q_t_text, .int t_length, .ref q_t_order, .ref q_t_told, .int t_spot, .int t_toldRows, .ref q_t_rowsTaken, .ref q_t_columnsTaken, .ref q_t_ways, .ref q_t_scaled, .ref q_t_rowFactors, .ref q_t_columnFactors, .ref q_t_rest, .ref q_t_diagonals, .ref q_t_weights])), (q_t_z, .inl (G.2 0, 50, .inl t_z)), (q_t_past, .inl (G.2 0, 200, .inl t_past)), (q_t_text, .inl (G.2 0, 100, .inl t_text)), (q_t_told, .inl (G.2 0, 49, .inl t_told))] sz)) (va_Qi (fun r9 (_ : Unit) => r9 = r) (fun _ t => atW G (va_A [(q_t, .inr (9, [.ref q_t_z, .ref q_t_old, .ref q_t_past, .int t_states, .ref q_t_kept, .int t_isKept, .ref q_t_text, .int t_length, .ref q_t_order, .ref q_t_told, .int t_spot, .int t_toldRows, .ref q_t_rowsTaken, .ref q_t_columnsTaken, .ref q_t_ways, .ref q_t_scaled, .ref q_t_rowFactors, .ref q_t_columnFactors, .ref q_t_rest, .ref q_t_diagonals, .ref q_t_weights])), (q_t_z, .inl (G.2 0, 50, .inl t_z)), (q_t_past, .inl (G.2 0, 200, .inl t_past)), (q_t_text, .inl (G.2 0, 100, .inl t_text)), (q_t_told, .inl (G.2 0, 49, .inl t_told))] sz) [(q_t, .inr (9, [.ref q_t_z, .ref q_t_old, .ref q_t_past, .int o_t_states, .ref q_t_kept, .int t_isKept, .ref q_t_text, .int t_length, .ref q_t_order, .ref q_t_told, .int o_t_spot, .int o_t_toldRows, .ref q_t_rowsTaken, .ref q_t_columnsTaken, .ref q_t_ways, .ref q_t_scaled, .ref q_t_rowFactors, .ref q_t_columnFactors, .ref q_t_rest, .ref q_t_diagonals, .ref q_t_weights])), (q_t_z, .inl (G.2 0, 50, .inl o_t_z)), (q_t_past, .inl (G.2 0, 200, .inl o_t_past)), (q_t_text, .inl (G.2 0, 100, .inl t_text)), (q_t_told, .inl (G.2 0, 49, .inl o_t_told))] t) (va_A [(q_t, .inr (9, [.ref q_t_z, .ref q_t_old, .ref q_t_past, .int t_states, .ref q_t_kept, .int t_isKept, .ref q_t_text, .int t_length, .ref q_t_order, .ref q_t_told, .int t_spot, .int t_toldRows, .ref q_t_rowsTaken, .ref q_t_columnsTaken, .ref q_t_ways, .ref q_t_scaled, .ref q_t_rowFactors, .ref q_t_columnFactors, .ref q_t_rest, .ref q_t_diagonals, .ref q_t_weights])), (q_t_z, .inl (G.2 0, 50, .inl t_z)), (q_t_past, .inl (G.2 0, 200, .inl t_past)), (q_t_text, .inl (G.2 0, 100, .inl t_text)), (q_t_told, .inl (G.2 0, 49, .inl t_told))] sz)) 0 0 (va_A [(q_t, .inr (9, [.ref q_t_z, .ref q_t_old, .ref q_t_past, .int t_states, .ref q_t_kept, .int t_isKept, .ref q_t_text, .int t_length, .ref q_t_order, .ref q_t_told, .int t_spot, .int t_toldRows, .ref q_t_rowsTaken, .ref q_t_columnsTaken, .ref q_t_ways, .ref q_t_scaled, .ref q_t_rowFactors, .ref q_t_columnFactors, .ref q_t_rest, .ref q_t_diagonals, .ref q_t_weights])), (q_t_z, .inl (G.2 0, 50, .inl t_z)), (q_t_past, .inl (G.2 0, 200, .inl t_past)), (q_t_text, .inl (G.2 0, 100, .inl t_text)), (q_t_told, .inl (G.2 0, 49, .inl t_told))] sz) := by
  refine Met.ofW (cc := cX10_read) (maxL := 1) (ret := (some .int)) (by decide) rfl ?_
  intro p e s m args below meth c s₁ B hml hv
  obtain ⟨rfl, hsz, hP, hK, hD0⟩ := hv
  subst hsz
  have hD := hD0.self (sz := s.heap.size)
  generalize hAe : va_A [(q_t, .inr (9, [.ref q_t_z, .ref q_t_old, .ref q_t_past, .int t_states, .ref q_t_kept, .int t_isKept, .ref q_t_text, .int t_length, .ref q_t_order, .ref q_t_told, .int t_spot, .int t_toldRows, .ref q_t_rowsTaken, .ref q_t_columnsTaken, .ref q_t_ways, .ref q_t_scaled, .ref q_t_rowFactors, .ref q_t_columnFactors, .ref q_t_rest, .ref q_t_diagonals, .ref q_t_weights])), (q_t_z, .inl (G.2 0, 50, .inl t_z)), (q_t_past, .inl (G.2 0, 200, .inl t_past)), (q_t_text, .inl (G.2 0, 100, .inl t_text)), (q_t_told, .inl (G.2 0, 49, .inl t_told))] s.heap.size = A at hD ⊢
  have hA : ∀ q : Nat, s.heap.size ≤ q → A q := fun q h => by rw [← hAe]; exact Or.inr h
  have hl := lv_entry ([.ref q_t]) (n := 1) (Nat.le_of_ble_eq_true rfl)
  rw [lg_entry_eq]
  refine k_X10_read ⟨B.exec, B.bytes, hml, findClass_of_methodNamed B.named, atoms_spec (ws := wsX10_read) B.pre⟩ G hK hA q_t q_t_z q_t_old q_t_past q_t_kept q_t_text q_t_order q_t_told q_t_rowsTaken q_t_columnsTaken q_t_ways q_t_scaled q_t_rowFactors q_t_columnFactors q_t_rest q_t_diagonals q_t_weights _ _ _ _ _ _ _ _ _ _ _ _ _ _ _ _ h ?_ _ _ _ hP hD va_S.rf hl
  intro H locs ls pc hd hP hD hS
  exact W.iret B.exec B.bytes B.returns (fun t ht hW => ⟨⟨r, (), rfl, rfl, by rw [ht]; exact hP, hD⟩, hS.F ht⟩) hS.2.2 hd B.notSynchronized
set_option maxRecDepth 20000 in
theorem wd_X10_entry_1 : Cond.constant RX10 92 (-2000000001) ∈ wsX10_entry := List.mem_of_getElem? (i := 1) (by decide +kernel)
def f_X10_entry (t_z : Nat → Int32) (a1 : Int32) (a2 : Int32) : Option Int32 :=
  (f_X10_isLine t_z a1).bind (fun r_1 =>
  if r_1 = 0 then
    some (-2000000001 : Int32)
  else
    (f_X10_isLine t_z a2).bind (fun r_4 =>
    if r_4 = 0 then
      some (-2000000001 : Int32)
    else
      (f_X10_at t_z a1 a2).bind (fun r_7 =>
      some r_7)))
set_option maxHeartbeats 4000000 in
set_option maxRecDepth 100000 in
theorem k_X10_entry {p : Program} {l : Launch} {e : Env} {s : State} {m : MethodId} {args : Array Value} {below : List Frame} {meth : Method} {c : Code} {Q : State → Prop} {A0 : Nat → Prop} {H0 : Heap} (C : CallFix p m c cX10_entry 3 s args wsX10_entry RX10) (G : GT) (hK : gK G s) (hA : ∀ q : Nat, H0.size ≤ q → A0 q) (q_t q_t_z q_t_old q_t_past q_t_kept q_t_text q_t_order q_t_told q_t_rowsTaken q_t_columnsTaken q_t_ways q_t_scaled q_t_rowFactors q_t_columnFactors q_t_rest q_t_diagonals q_t_weights : Nat) (t_states : Int32) (t_isKept : Int32) (t_length : Int32) (t_spot : Int32) (t_toldRows : Int32) (t_z : Nat → Int32) (a1 : Int32) (a2 : Int32) (r : Int32) (h : f_X10_entry t_z a1 a2 = some r) (KR : ∀ (H : Heap) (locs : List Loc) (ls : Array Slot) (pc : Nat), decode cX10_entry pc = .ok (.ireturn, 1) → va_P G.1 vwCl [(q_t, .inr (9, [.ref q_t_z, .ref q_t_old, .ref q_t_past, .int t_states, .ref q_t_kept, .int t_isKept, .ref q_t_text, .int t_length, .ref q_t_order, .ref q_t_told, .int t_spot, .int t_toldRows, .ref q_t_rowsTaken, .ref q_t_columnsTaken, .ref q_t_ways, .ref q_t_scaled, .ref q_t_rowFactors, .ref q_t_columnFactors, .ref q_t_rest, .ref q_t_diagonals, .ref q_t_weights])), (q_t_z, .inl (G.2 0, 50, .inl t_z))] H → va_D A0 [(q_t, .inr (9, [.ref q_t_z, .ref q_t_old, .ref q_t_past, .int t_states, .ref q_t_kept, .int t_isKept, .ref q_t_text, .int t_length, .ref q_t_order, .ref q_t_told, .int t_spot, .int t_toldRows, .ref q_t_rowsTaken, .ref q_t_columnsTaken, .ref q_t_ways, .ref q_t_scaled, .ref q_t_rowFactors, .ref q_t_columnFactors, .ref q_t_rest, .ref q_t_diagonals, .ref q_t_weights])), (q_t_z, .inl (G.2 0, 50, .inl t_z))] → va_S A0 H0 H locs → W p l e ({ frames := 2, cells := 0, slots := 0, locals := 43 } : Room) s m args below meth c H locs 0 0 Q (F0 m pc ls [.int r])) : ∀ (H : Heap) (locs : List Loc) (ls : Array Slot), va_P G.1 vwCl [(q_t, .inr (9, [.ref q_t_z, .ref q_t_old, .ref q_t_past, .int t_states, .ref q_t_kept, .int t_isKept, .ref q_t_text, .int t_length, .ref q_t_order, .ref q_t_told, .int t_spot, .int t_toldRows, .ref q_t_rowsTaken, .ref q_t_columnsTaken, .ref q_t_ways, .ref q_t_scaled, .ref q_t_rowFactors, .ref q_t_columnFactors, .ref q_t_rest, .ref q_t_diagonals, .ref q_t_weights])), (q_t_z, .inl (G.2 0, 50, .inl t_z))] H → va_D A0 [(q_t, .inr (9, [.ref q_t_z, .ref q_t_old, .ref q_t_past, .int t_states, .ref q_t_kept, .int t_isKept, .ref q_t_text, .int t_length, .ref q_t_order, .ref q_t_told, .int t_spot, .int t_toldRows, .ref q_t_rowsTaken, .ref q_t_columnsTaken, .ref q_t_ways, .ref q_t_scaled, .ref q_t_rowFactors, .ref q_t_columnFactors, .ref q_t_rest, .ref q_t_diagonals, .ref q_t_weights])), (q_t_z, .inl (G.2 0, 50, .inl t_z))] → va_S A0 H0 H locs → lv_has ls 3 [(0, .ref q_t), (1, .int a1), (2, .int a2)] → W p l e ({ frames := 2, cells := 0, slots := 0, locals := 43 } : Room) s m args below meth c H locs 0 0 Q (F0 m 0 ls []) := by
  obtain ⟨hx, hb, hml, hown, hts⟩ := C
  intro H locs ls hP hD hS hl
  rw [f_X10_entry] at h
  refine lv_aload_n hx hb dX10_entry_0 rfl (lv_at hl 0 rfl) ?_
  refine lv_iload_n hx hb dX10_entry_1 rfl (lv_at hl 1 rfl) ?_
  obtain ⟨r_1, hf_2, h⟩ := bd_ok h
  refine ck_Vi (rest := []) (wn := [(q_t, .inr (9, [.ref q_t_z, .ref q_t_old, .ref q_t_past, .int t_states, .ref q_t_kept, .int t_isKept, .ref q_t_text, .int t_length, .ref q_t_order, .ref q_t_told, .int t_spot, .int t_toldRows, .ref q_t_rowsTaken, .ref q_t_columnsTaken, .ref q_t_ways, .ref q_t_scaled, .ref q_t_rowFactors, .ref q_t_columnFactors, .ref q_t_rest, .ref q_t_diagonals, .ref q_t_weights])), (q_t_z, .inl (G.2 0, 50, .inl t_z))]) ⟨hx, hb, hml, hown, hts⟩ hK hP hD hS hA [0, 1] [] [0, 1] (c_X10_isLine l G q_t q_t_z q_t_old q_t_past q_t_kept q_t_text q_t_order q_t_told q_t_rowsTaken q_t_columnsTaken q_t_ways q_t_scaled q_t_rowFactors q_t_columnFactors q_t_rest q_t_diagonals q_t_weights _ t_states t_isKept t_length t_spot t_toldRows t_z a1 _ hf_2) (cwV 1 hts gX10_entry_X10_isLine rfl rfl rfl (by decide +kernel) ⟨Nat.le_of_ble_eq_true rfl, Nat.le_of_ble_eq_true rfl⟩) rfl rfl rfl rfl rfl rfl (by decide) rfl rfl rfl hl.1 rfl (Nat.le_of_ble_eq_true rfl) dX10_entry_2 ⟨Nat.zero_le _, Nat.zero_le _⟩ (fun H locs hP hD hS => ?_)
  refine lv_if_eq (tgt := 25) hx hb dX10_entry_5 (by decide) (fun c_3 => ?_) (fun c_3 => ?_)
  · replace h := it_t h c_3
    refine lv_ldc (v := -2000000001) hx hb hown (hts _ wd_X10_entry_1) dX10_entry_25 ?_
    obtain rfl := sm1 h
    exact KR H locs ls 27 dX10_entry_27 hP hD hS
  · replace h := it_f h c_3
    refine lv_aload_n hx hb dX10_entry_8 rfl (lv_at hl 0 rfl) ?_
    refine lv_iload_n hx hb dX10_entry_9 rfl (lv_at hl 2 rfl) ?_
    obtain ⟨r_4, hf_5, h⟩ := bd_ok h
    refine ck_Vi (rest := []) (wn := [(q_t, .inr (9, [.ref q_t_z, .ref q_t_old, .ref q_t_past, .int t_states, .ref q_t_kept, .int t_isKept, .ref q_t_text, .int t_length, .ref q_t_order, .ref q_t_told, .int t_spot, .int t_toldRows, .ref q_t_rowsTaken, .ref q_t_columnsTaken, .ref q_t_ways, .ref q_t_scaled, .ref q_t_rowFactors, .ref q_t_columnFactors, .ref q_t_rest, .ref q_t_diagonals, .ref q_t_weights])), (q_t_z, .inl (G.2 0, 50, .inl t_z))]) ⟨hx, hb, hml, hown, hts⟩ hK hP hD hS hA [0, 1] [] [0, 1] (c_X10_isLine l G q_t q_t_z q_t_old q_t_past q_t_kept q_t_text q_t_order q_t_told q_t_rowsTaken q_t_columnsTaken q_t_ways q_t_scaled q_t_rowFactors q_t_columnFactors q_t_rest q_t_diagonals q_t_weights _ t_states t_isKept t_length t_spot t_toldRows t_z a2 _ hf_5) (cwV 1 hts gX10_entry_X10_isLine rfl rfl rfl (by decide +kernel) ⟨Nat.le_of_ble_eq_true rfl, Nat.le_of_ble_eq_true rfl⟩) rfl rfl rfl rfl rfl rfl (by decide) rfl rfl rfl hl.1 rfl (Nat.le_of_ble_eq_true rfl) dX10_entry_10 ⟨Nat.zero_le _, Nat.zero_le _⟩ (fun H locs hP hD hS => ?_)
    refine lv_if_eq (tgt := 25) hx hb dX10_entry_13 (by decide) (fun c_6 => ?_) (fun c_6 => ?_)
    · replace h := it_t h c_6
      refine lv_ldc (v := -2000000001) hx hb hown (hts _ wd_X10_entry_1) dX10_entry_25 ?_
      obtain rfl := sm1 h
      exact KR H locs ls 27 dX10_entry_27 hP hD hS
    · replace h := it_f h c_6
      refine lv_aload_n hx hb dX10_entry_16 rfl (lv_at hl 0 rfl) ?_
      refine lv_iload_n hx hb dX10_entry_17 rfl (lv_at hl 1 rfl) ?_
      refine lv_iload_n hx hb dX10_entry_18 rfl (lv_at hl 2 rfl) ?_
      obtain ⟨r_7, hf_8, h⟩ := bd_ok h
      refine ck_Vi (rest := []) (wn := [(q_t, .inr (9, [.ref q_t_z, .ref q_t_old, .ref q_t_past, .int t_states, .ref q_t_kept, .int t_isKept, .ref q_t_text, .int t_length, .ref q_t_order, .ref q_t_told, .int t_spot, .int t_toldRows, .ref q_t_rowsTaken, .ref q_t_columnsTaken, .ref q_t_ways, .ref q_t_scaled, .ref q_t_rowFactors, .ref q_t_columnFactors, .ref q_t_rest, .ref q_t_diagonals, .ref q_t_weights])), (q_t_z, .inl (G.2 0, 50, .inl t_z))]) ⟨hx, hb, hml, hown, hts⟩ hK hP hD hS hA [0, 1] [] [0, 1] (c_X10_at l G q_t q_t_z q_t_old q_t_past q_t_kept q_t_text q_t_order q_t_told q_t_rowsTaken q_t_columnsTaken q_t_ways q_t_scaled q_t_rowFactors q_t_columnFactors q_t_rest q_t_diagonals q_t_weights _ t_states t_isKept t_length t_spot t_toldRows t_z a1 a2 _ hf_8) (cwV 2 hts gX10_entry_X10_at rfl rfl rfl (by decide +kernel) ⟨Nat.le_of_ble_eq_true rfl, Nat.le_of_ble_eq_true rfl⟩) rfl rfl rfl rfl rfl rfl (by decide) rfl rfl rfl hl.1 rfl (Nat.le_of_ble_eq_true rfl) dX10_entry_19 ⟨Nat.zero_le _, Nat.zero_le _⟩ (fun H locs hP hD hS => ?_)
      refine lv_goto (tgt := 27) hx hb dX10_entry_22 (by decide) ?_
      obtain rfl := sm1 h
      exact KR H locs ls 27 dX10_entry_27 hP hD hS
set_option maxHeartbeats 4000000 in
set_option maxRecDepth 100000 in
theorem c_X10_entry (l : Launch) (G : GT) (q_t q_t_z q_t_old q_t_past q_t_kept q_t_text q_t_order q_t_told q_t_rowsTaken q_t_columnsTaken q_t_ways q_t_scaled q_t_rowFactors q_t_columnFactors q_t_rest q_t_diagonals q_t_weights : Nat) (sz : Nat) (t_states : Int32) (t_isKept : Int32) (t_length : Int32) (t_spot : Int32) (t_toldRows : Int32) (t_z : Nat → Int32) (a1 : Int32) (a2 : Int32) (r : Int32) (h : f_X10_entry t_z a1 a2 = some r) : Met l yX10_entry wsX10_entry ({ frames := 2, cells := 0, slots := 0, locals := 43 } : Room) (va_Pc [.ref q_t, .int a1, .int a2] (pcW G [(q_t, .inr (9, [.ref q_t_z, .ref q_t_old, .ref q_t_past, .int t_states, .ref q_t_kept, .int t_isKept, .ref q_t_text, .int t_length, .ref q_t_order, .ref q_t_told, .int t_spot, .int t_toldRows, .ref q_t_rowsTaken, .ref q_t_columnsTaken, .ref q_t_ways, .ref q_t_scaled, .ref q_t_rowFactors, .ref q_t_columnFactors, .ref q_t_rest, .ref q_t_diagonals, .ref q_t_weights])), (q_t_z, .inl (G.2 0, 50, .inl t_z))] sz)) (va_Qi (fun r9 (_ : Unit) => r9 = r) (fun _ t => atW G (va_A [(q_t, .inr (9, [.ref q_t_z, .ref q_t_old, .ref q_t_past, .int t_states, .ref q_t_kept, .int t_isKept, .ref q_t_text, .int t_length, .ref q_t_order, .ref q_t_told, .int t_spot, .int t_toldRows, .ref q_t_rowsTaken, .ref q_t_columnsTaken, .ref q_t_ways, .ref q_t_scaled, .ref q_t_rowFactors, .ref q_t_columnFactors, .ref q_t_rest, .ref q_t_diagonals, .ref q_t_weights])), (q_t_z, .inl (G.2 0, 50, .inl t_z))] sz) [(q_t, .inr (9, [.ref q_t_z, .ref q_t_old, .ref q_t_past, .int t_states, .ref q_t_kept, .int t_isKept, .ref q_t_text, .int t_length, .ref q_t_order, .ref q_t_told, .int t_spot, .int t_toldRows, .ref q_t_rowsTaken, .ref q_t_columnsTaken, .ref q_t_ways, .ref q_t_scaled, .ref q_t_rowFactors, .ref q_t_columnFactors, .ref q_t_rest, .ref q_t_diagonals, .ref q_t_weights])), (q_t_z, .inl (G.2 0, 50, .inl t_z))] t) (va_A [(q_t, .inr (9, [.ref q_t_z, .ref q_t_old, .ref q_t_past, .int t_states, .ref q_t_kept, .int t_isKept, .ref q_t_text, .int t_length, .ref q_t_order, .ref q_t_told, .int t_spot, .int t_toldRows, .ref q_t_rowsTaken, .ref q_t_columnsTaken, .ref q_t_ways, .ref q_t_scaled, .ref q_t_rowFactors, .ref q_t_columnFactors, .ref q_t_rest, .ref q_t_diagonals, .ref q_t_weights])), (q_t_z, .inl (G.2 0, 50, .inl t_z))] sz)) 0 0 (va_A [(q_t, .inr (9, [.ref q_t_z, .ref q_t_old, .ref q_t_past, .int t_states, .ref q_t_kept, .int t_isKept, .ref q_t_text, .int t_length, .ref q_t_order, .ref q_t_told, .int t_spot, .int t_toldRows, .ref q_t_rowsTaken, .ref q_t_columnsTaken, .ref q_t_ways, .ref q_t_scaled, .ref q_t_rowFactors, .ref q_t_columnFactors, .ref q_t_rest, .ref q_t_diagonals, .ref q_t_weights])), (q_t_z, .inl (G.2 0, 50, .inl t_z))] sz) := by
  refine Met.ofW (cc := cX10_entry) (maxL := 3) (ret := (some .int)) (by decide) rfl ?_
  intro p e s m args below meth c s₁ B hml hv
  obtain ⟨rfl, hsz, hP, hK, hD0⟩ := hv
  subst hsz
  have hD := hD0.self (sz := s.heap.size)
  generalize hAe : va_A [(q_t, .inr (9, [.ref q_t_z, .ref q_t_old, .ref q_t_past, .int t_states, .ref q_t_kept, .int t_isKept, .ref q_t_text, .int t_length, .ref q_t_order, .ref q_t_told, .int t_spot, .int t_toldRows, .ref q_t_rowsTaken, .ref q_t_columnsTaken, .ref q_t_ways, .ref q_t_scaled, .ref q_t_rowFactors, .ref q_t_columnFactors, .ref q_t_rest, .ref q_t_diagonals, .ref q_t_weights])), (q_t_z, .inl (G.2 0, 50, .inl t_z))] s.heap.size = A at hD ⊢
  have hA : ∀ q : Nat, s.heap.size ≤ q → A q := fun q h => by rw [← hAe]; exact Or.inr h
  have hl := lv_entry ([.ref q_t, .int a1, .int a2]) (n := 3) (Nat.le_of_ble_eq_true rfl)
  rw [lg_entry_eq]
  refine k_X10_entry ⟨B.exec, B.bytes, hml, findClass_of_methodNamed B.named, atoms_spec (ws := wsX10_entry) B.pre⟩ G hK hA q_t q_t_z q_t_old q_t_past q_t_kept q_t_text q_t_order q_t_told q_t_rowsTaken q_t_columnsTaken q_t_ways q_t_scaled q_t_rowFactors q_t_columnFactors q_t_rest q_t_diagonals q_t_weights _ _ _ _ _ _ _ _ _ h ?_ _ _ _ hP hD va_S.rf hl
  intro H locs ls pc hd hP hD hS
  exact W.iret B.exec B.bytes B.returns (fun t ht hW => ⟨⟨r, (), rfl, rfl, by rw [ht]; exact hP, hD⟩, hS.F ht⟩) hS.2.2 hd B.notSynchronized
