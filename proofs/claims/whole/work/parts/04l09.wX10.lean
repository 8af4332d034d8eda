set_option maxRecDepth 20000 in
theorem wd_X10_tooFew_1 : Cond.constant RX10 75 (-2000000005) ∈ wsX10_tooFew := List.mem_of_getElem? (i := 1) (by decide +kernel)
def f_X10_tooFew_L1 (t_z : Nat → Int32) : (Int32 × Int32) → Option ((Int32 × Int32) ⊕ Int32)
  | (x1, x2) =>
    if x2 ≤ 0 then
      some (.inr x1)
    else
      (f_X10_columnsOf t_z x2).bind (fun r_4 =>
      (f_X10_bits r_4).bind (fun r_6 =>
      (f_X10_bits x2).bind (fun r_8 =>
      Option.bind (
        if r_8 ≤ r_6 then
          some (0 : Int32)
        else
          some (1 : Int32)) (fun y_11 =>
      if y_11 = 0 then
        pl ((x2 + (-1 : Int32)) : Int32) (fun x2_13 =>
        some (.inl (x1, x2_13)))
      else
        if x1 = (-2000000005 : Int32) then
          pl ((x2 + (-1 : Int32)) : Int32) (fun x2_15 =>
          some (.inl (x2, x2_15)))
        else
          (f_X10_bits x2).bind (fun r_16 =>
          (f_X10_bits x1).bind (fun r_18 =>
          if r_18 < r_16 then
            pl ((x2 + (-1 : Int32)) : Int32) (fun x2_21 =>
            some (.inl (x1, x2_21)))
          else
            pl ((x2 + (-1 : Int32)) : Int32) (fun x2_22 =>
            some (.inl (x2, x2_22)))))))))
def f_X10_tooFew (t_z : Nat → Int32) : Option Int32 :=
  (f_X10_all t_z).bind (fun r_1 =>
  (lpN (f_X10_tooFew_L1 t_z) FU ((-2000000005 : Int32), r_1)).bind (fun x1_23 =>
  some x1_23))
set_option maxHeartbeats 4000000 in
set_option maxRecDepth 100000 in
theorem l_X10_tooFew_1 {p : Program} {l : Launch} {e : Env} {s : State} {m : MethodId} {args : Array Value} {below : List Frame} {meth : Method} {c : Code} {Q : State → Prop} {A0 : Nat → Prop} {H0 : Heap} (C : CallFix p m c cX10_tooFew 4 s args wsX10_tooFew RX10) (G : GT) (hK : gK G s) (hA : ∀ q : Nat, H0.size ≤ q → A0 q) (q_t q_t_z q_t_old q_t_past q_t_kept q_t_text q_t_order q_t_told q_t_rowsTaken q_t_columnsTaken q_t_ways q_t_scaled q_t_rowFactors q_t_columnFactors q_t_rest q_t_diagonals q_t_weights : Nat) (t_states : Int32) (t_isKept : Int32) (t_length : Int32) (t_spot : Int32) (t_toldRows : Int32) (t_z : Nat → Int32) (E_x1 : Int32) (K : ∀ (H : Heap) (locs : List Loc) (ls : Array Slot), va_P G.1 vwCl [(q_t, .inr (9, [.ref q_t_z, .ref q_t_old, .ref q_t_past, .int t_states, .ref q_t_kept, .int t_isKept, .ref q_t_text, .int t_length, .ref q_t_order, .ref q_t_told, .int t_spot, .int t_toldRows, .ref q_t_rowsTaken, .ref q_t_columnsTaken, .ref q_t_ways, .ref q_t_scaled, .ref q_t_rowFactors, .ref q_t_columnFactors, .ref q_t_rest, .ref q_t_diagonals, .ref q_t_weights])), (q_t_z, .inl (G.2 0, 50, .inl t_z))] H → va_D A0 [(q_t, .inr (9, [.ref q_t_z, .ref q_t_old, .ref q_t_past, .int t_states, .ref q_t_kept, .int t_isKept, .ref q_t_text, .int t_length, .ref q_t_order, .ref q_t_told, .int t_spot, .int t_toldRows, .ref q_t_rowsTaken, .ref q_t_columnsTaken, .ref q_t_ways, .ref q_t_scaled, .ref q_t_rowFactors, .ref q_t_columnFactors, .ref q_t_rest, .ref q_t_diagonals, .ref q_t_weights])), (q_t_z, .inl (G.2 0, 50, .inl t_z))] → va_S A0 H0 H locs → lv_has ls 4 [(1, .int E_x1)] → W p l e ({ frames := 1, cells := 0, slots := 0, locals := 23 } : Room) s m args below meth c H locs 0 0 Q (F0 m 66 ls [])) : ∀ (n : Nat) (x1 : Int32) (x2 : Int32), lpN (f_X10_tooFew_L1 t_z) n (x1, x2) = some E_x1 → ∀ (H : Heap) (locs : List Loc) (ls : Array Slot), va_P G.1 vwCl [(q_t, .inr (9, [.ref q_t_z, .ref q_t_old, .ref q_t_past, .int t_states, .ref q_t_kept, .int t_isKept, .ref q_t_text, .int t_length, .ref q_t_order, .ref q_t_told, .int t_spot, .int t_toldRows, .ref q_t_rowsTaken, .ref q_t_columnsTaken, .ref q_t_ways, .ref q_t_scaled, .ref q_t_rowFactors, .ref q_t_columnFactors, .ref q_t_rest, .ref q_t_diagonals, .ref q_t_weights])), (q_t_z, .inl (G.2 0, 50, .inl t_z))] H → va_D A0 [(q_t, .inr (9, [.ref q_t_z, .ref q_t_old, .ref q_t_past, .int t_states, .ref q_t_kept, .int t_isKept, .ref q_t_text, .int t_length, .ref q_t_order, .ref q_t_told, .int t_spot, .int t_toldRows, .ref q_t_rowsTaken, .ref q_t_columnsTaken, .ref q_t_ways, .ref q_t_scaled, .ref q_t_rowFactors, .ref q_t_columnFactors, .ref q_t_rest, .ref q_t_diagonals, .ref q_t_weights])), (q_t_z, .inl (G.2 0, 50, .inl t_z))] → va_S A0 H0 H locs → lv_has ls 4 [(0, .ref q_t), (1, .int x1), (2, .int x2)] → W p l e ({ frames := 1, cells := 0, slots := 0, locals := 23 } : Room) s m args below meth c H locs 0 0 Q (F0 m 8 ls []) := by
  obtain ⟨hx, hb, hml, hown, hts⟩ := C
  intro n
  induction n with
  | zero => intro x1 x2 h; exact absurd h (fun h => lp_0 h)
  | succ n ih =>
    intro x1 x2 h H locs ls hP hD hS hl
    obtain ⟨y, h, hk⟩ := lp_s h
    rw [f_X10_tooFew_L1] at h
    refine lv_iload_n hx hb dX10_tooFew_8 rfl (lv_at hl 2 rfl) ?_
    refine lv_if_le (tgt := 66) hx hb dX10_tooFew_9 (by decide) (fun c_3 => ?_) (fun c_3 => ?_)
    · replace h := it_t h c_3
      obtain rfl := sm1 h
      obtain rfl := sm1 hk
      exact K H locs ls hP hD hS (lv_sub hl [1] rfl)
    · replace h := it_f h c_3
      refine lv_aload_n hx hb dX10_tooFew_12 rfl (lv_at hl 0 rfl) ?_
      refine lv_iload_n hx hb dX10_tooFew_13 rfl (lv_at hl 2 rfl) ?_
      obtain ⟨r_4, hf_5, h⟩ := bd_ok h
      refine ck_Vi (rest := []) (wn := [(q_t, .inr (9, [.ref q_t_z, .ref q_t_old, .ref q_t_past, .int t_states, .ref q_t_kept, .int t_isKept, .ref q_t_text, .int t_length, .ref q_t_order, .ref q_t_told, .int t_spot, .int t_toldRows, .ref q_t_rowsTaken, .ref q_t_columnsTaken, .ref q_t_ways, .ref q_t_scaled, .ref q_t_rowFactors, .ref q_t_columnFactors, .ref q_t_rest, .ref q_t_diagonals, .ref q_t_weights])), (q_t_z, .inl (G.2 0, 50, .inl t_z))]) ⟨hx, hb, hml, hown, hts⟩ hK hP hD hS hA [0, 1] [] [0, 1] (c_X10_columnsOf l G q_t q_t_z q_t_old q_t_past q_t_kept q_t_text q_t_order q_t_told q_t_rowsTaken q_t_columnsTaken q_t_ways q_t_scaled q_t_rowFactors q_t_columnFactors q_t_rest q_t_diagonals q_t_weights _ t_states t_isKept t_length t_spot t_toldRows t_z x2 _ hf_5) (cwV 1 hts gX10_tooFew_X10_columnsOf rfl rfl rfl (by decide +kernel) ⟨Nat.le_of_ble_eq_true rfl, Nat.le_of_ble_eq_true rfl⟩) rfl rfl rfl rfl rfl rfl (by decide) rfl rfl rfl hl.1 rfl (Nat.le_of_ble_eq_true rfl) dX10_tooFew_14 ⟨Nat.zero_le _, Nat.zero_le _⟩ (fun H locs hP hD hS => ?_)
      obtain ⟨r_6, hf_7, h⟩ := bd_ok h
      refine ck_Si (rest := []) (wn := [(q_t, .inr (9, [.ref q_t_z, .ref q_t_old, .ref q_t_past, .int t_states, .ref q_t_kept, .int t_isKept, .ref q_t_text, .int t_length, .ref q_t_order, .ref q_t_told, .int t_spot, .int t_toldRows, .ref q_t_rowsTaken, .ref q_t_columnsTaken, .ref q_t_ways, .ref q_t_scaled, .ref q_t_rowFactors, .ref q_t_columnFactors, .ref q_t_rest, .ref q_t_diagonals, .ref q_t_weights])), (q_t_z, .inl (G.2 0, 50, .inl t_z))]) ⟨hx, hb, hml, hown, hts⟩ hK hP hD hS hA [] [0, 1] [0, 1] (c_X10_bits l G _ r_4 _ hf_7) (cwS 1 hts gX10_tooFew_X10_bits rfl rfl rfl (by decide +kernel) ⟨Nat.le_of_ble_eq_true rfl, Nat.le_of_ble_eq_true rfl⟩) rfl rfl rfl rfl (by decide) rfl rfl rfl hl.1 rfl (Nat.le_of_ble_eq_true rfl) dX10_tooFew_17 ⟨Nat.zero_le _, Nat.zero_le _⟩ (fun H locs hP hD hS => ?_)
      refine lv_iload_n hx hb dX10_tooFew_20 rfl (lv_at hl 2 rfl) ?_
      obtain ⟨r_8, hf_9, h⟩ := bd_ok h
      refine ck_Si (rest := [.int r_6]) (wn := [(q_t, .inr (9, [.ref q_t_z, .ref q_t_old, .ref q_t_past, .int t_states, .ref q_t_kept, .int t_isKept, .ref q_t_text, .int t_length, .ref q_t_order, .ref q_t_told, .int t_spot, .int t_toldRows, .ref q_t_rowsTaken, .ref q_t_columnsTaken, .ref q_t_ways, .ref q_t_scaled, .ref q_t_rowFactors, .ref q_t_columnFactors, .ref q_t_rest, .ref q_t_diagonals, .ref q_t_weights])), (q_t_z, .inl (G.2 0, 50, .inl t_z))]) ⟨hx, hb, hml, hown, hts⟩ hK hP hD hS hA [] [0, 1] [0, 1] (c_X10_bits l G _ x2 _ hf_9) (cwS 1 hts gX10_tooFew_X10_bits rfl rfl rfl (by decide +kernel) ⟨Nat.le_of_ble_eq_true rfl, Nat.le_of_ble_eq_true rfl⟩) rfl rfl rfl rfl (by decide) rfl rfl rfl hl.1 rfl (Nat.le_of_ble_eq_true rfl) dX10_tooFew_21 ⟨Nat.zero_le _, Nat.zero_le _⟩ (fun H locs hP hD hS => ?_)
      obtain ⟨y_11, hr, h⟩ := bd_ok h
      have J : ∀ (H : Heap) (locs : List Loc) (ls : Array Slot), va_P G.1 vwCl [(q_t, .inr (9, [.ref q_t_z, .ref q_t_old, .ref q_t_past, .int t_states, .ref q_t_kept, .int t_isKept, .ref q_t_text, .int t_length, .ref q_t_order, .ref q_t_told, .int t_spot, .int t_toldRows, .ref q_t_rowsTaken, .ref q_t_columnsTaken, .ref q_t_ways, .ref q_t_scaled, .ref q_t_rowFactors, .ref q_t_columnFactors, .ref q_t_rest, .ref q_t_diagonals, .ref q_t_weights])), (q_t_z, .inl (G.2 0, 50, .inl t_z))] H → va_D A0 [(q_t, .inr (9, [.ref q_t_z, .ref q_t_old, .ref q_t_past, .int t_states, .ref q_t_kept, .int t_isKept, .ref q_t_text, .int t_length, .ref q_t_order, .ref q_t_told, .int t_spot, .int t_toldRows, .ref q_t_rowsTaken, .ref q_t_columnsTaken, .ref q_t_ways, .ref q_t_scaled, .ref q_t_rowFactors, .ref q_t_columnFactors, .ref q_t_rest, .ref q_t_diagonals, .ref q_t_weights])), (q_t_z, .inl (G.2 0, 50, .inl t_z))] → va_S A0 H0 H locs → lv_has ls 4 [(0, .ref q_t), (1, .int x1), (2, .int x2)] → W p l e ({ frames := 1, cells := 0, slots := 0, locals := 23 } : Room) s m args below meth c H locs 0 0 Q (F0 m 32 ls [.int y_11]) := by
        intro H locs ls hP hD hS hl
        refine lv_istore_n (lv' := [(3, .int y_11), (0, .ref q_t), (1, .int x1), (2, .int x2)]) hx hb dX10_tooFew_32 rfl hl (by decide) rfl (fun ls hl => ?_)
        refine lv_iload_n hx hb dX10_tooFew_33 rfl (lv_at hl 0 rfl) ?_
        refine lv_if_eq (tgt := 58) hx hb dX10_tooFew_34 (by decide) (fun c_12 => ?_) (fun c_12 => ?_)
        · replace h := it_t h c_12
          refine lv_iload_n hx hb dX10_tooFew_58 rfl (lv_at hl 2 rfl) ?_
          refine lv_istore_n (lv' := [(1, .int x1), (3, .int y_11), (0, .ref q_t), (2, .int x2)]) hx hb dX10_tooFew_59 rfl hl (by decide) rfl (fun ls hl => ?_)
          obtain ⟨x2_13, ex2_13, h⟩ := pl_ok h
          refine lv_iinc (v := x2_13) (lv' := [(2, .int x2_13), (1, .int x1), (3, .int y_11), (0, .ref q_t)]) hx hb dX10_tooFew_60 hl (k := 3) rfl (by rw [ex2_13]; rfl) (by decide) rfl (fun ls hl => ?_)
          refine lv_goto (tgt := 8) hx hb dX10_tooFew_63 (by decide) ?_
          obtain rfl := sm1 h
          exact ih x1 x2_13 hk H locs ls hP hD hS (lv_sub hl [3, 1, 0] rfl)
        · replace h := it_f h c_12
          refine lv_iload_n hx hb dX10_tooFew_37 rfl (lv_at hl 2 rfl) ?_
          refine lv_ldc (v := -2000000005) hx hb hown (hts _ wd_X10_tooFew_1) dX10_tooFew_38 ?_
          refine lv_icmp_eq (tgt := 54) hx hb dX10_tooFew_40 (by decide) (fun c_14 => ?_) (fun c_14 => ?_)
          · replace h := it_t h c_14
            refine lv_iload_n hx hb dX10_tooFew_54 rfl (lv_at hl 3 rfl) ?_
            refine lv_goto (tgt := 59) hx hb dX10_tooFew_55 (by decide) ?_
            refine lv_istore_n (lv' := [(1, .int x2), (3, .int y_11), (0, .ref q_t), (2, .int x2)]) hx hb dX10_tooFew_59 rfl hl (by decide) rfl (fun ls hl => ?_)
            obtain ⟨x2_15, ex2_15, h⟩ := pl_ok h
            refine lv_iinc (v := x2_15) (lv' := [(2, .int x2_15), (1, .int x2), (3, .int y_11), (0, .ref q_t)]) hx hb dX10_tooFew_60 hl (k := 3) rfl (by rw [ex2_15]; rfl) (by decide) rfl (fun ls hl => ?_)
            refine lv_goto (tgt := 8) hx hb dX10_tooFew_63 (by decide) ?_
            obtain rfl := sm1 h
            exact ih x2 x2_15 hk H locs ls hP hD hS (lv_sub hl [3, 1, 0] rfl)
          · replace h := it_f h c_14
            refine lv_iload_n hx hb dX10_tooFew_43 rfl (lv_at hl 3 rfl) ?_
            obtain ⟨r_16, hf_17, h⟩ := bd_ok h
            refine ck_Si (rest := []) (wn := [(q_t, .inr (9, [.ref q_t_z, .ref q_t_old, .ref q_t_past, .int t_states, .ref q_t_kept, .int t_isKept, .ref q_t_text, .int t_length, .ref q_t_order, .ref q_t_told, .int t_spot, .int t_toldRows, .ref q_t_rowsTaken, .ref q_t_columnsTaken, .ref q_t_ways, .ref q_t_scaled, .ref q_t_rowFactors, .ref q_t_columnFactors, .ref q_t_rest, .ref q_t_diagonals, .ref q_t_weights])), (q_t_z, .inl (G.2 0, 50, .inl t_z))]) ⟨hx, hb, hml, hown, hts⟩ hK hP hD hS hA [] [0, 1] [0, 1] (c_X10_bits l G _ x2 _ hf_17) (cwS 1 hts gX10_tooFew_X10_bits rfl rfl rfl (by decide +kernel) ⟨Nat.le_of_ble_eq_true rfl, Nat.le_of_ble_eq_true rfl⟩) rfl rfl rfl rfl (by decide) rfl rfl rfl hl.1 rfl (Nat.le_of_ble_eq_true rfl) dX10_tooFew_44 ⟨Nat.zero_le _, Nat.zero_le _⟩ (fun H locs hP hD hS => ?_)
            refine lv_iload_n hx hb dX10_tooFew_47 rfl (lv_at hl 2 rfl) ?_
            obtain ⟨r_18, hf_19, h⟩ := bd_ok h
            refine ck_Si (rest := [.int r_16]) (wn := [(q_t, .inr (9, [.ref q_t_z, .ref q_t_old, .ref q_t_past, .int t_states, .ref q_t_kept, .int t_isKept, .ref q_t_text, .int t_length, .ref q_t_order, .ref q_t_told, .int t_spot, .int t_toldRows, .ref q_t_rowsTaken, .ref q_t_columnsTaken, .ref q_t_ways, .ref q_t_scaled, .ref q_t_rowFactors, .ref q_t_columnFactors, .ref q_t_rest, .ref q_t_diagonals, .ref q_t_weights])), (q_t_z, .inl (G.2 0, 50, .inl t_z))]) ⟨hx, hb, hml, hown, hts⟩ hK hP hD hS hA [] [0, 1] [0, 1] (c_X10_bits l G _ x1 _ hf_19) (cwS 1 hts gX10_tooFew_X10_bits rfl rfl rfl (by decide +kernel) ⟨Nat.le_of_ble_eq_true rfl, Nat.le_of_ble_eq_true rfl⟩) rfl rfl rfl rfl (by decide) rfl rfl rfl hl.1 rfl (Nat.le_of_ble_eq_true rfl) dX10_tooFew_48 ⟨Nat.zero_le _, Nat.zero_le _⟩ (fun H locs hP hD hS => ?_)
            refine lv_icmp_gt (tgt := 58) hx hb dX10_tooFew_51 (by decide) (fun c_20 => ?_) (fun c_20 => ?_)
            · replace h := it_t h c_20
              refine lv_iload_n hx hb dX10_tooFew_58 rfl (lv_at hl 2 rfl) ?_
              refine lv_istore_n (lv' := [(1, .int x1), (3, .int y_11), (0, .ref q_t), (2, .int x2)]) hx hb dX10_tooFew_59 rfl hl (by decide) rfl (fun ls hl => ?_)
              obtain ⟨x2_21, ex2_21, h⟩ := pl_ok h
              refine lv_iinc (v := x2_21) (lv' := [(2, .int x2_21), (1, .int x1), (3, .int y_11), (0, .ref q_t)]) hx hb dX10_tooFew_60 hl (k := 3) rfl (by rw [ex2_21]; rfl) (by decide) rfl (fun ls hl => ?_)
              refine lv_goto (tgt := 8) hx hb dX10_tooFew_63 (by decide) ?_
              obtain rfl := sm1 h
              exact ih x1 x2_21 hk H locs ls hP hD hS (lv_sub hl [3, 1, 0] rfl)
            · replace h := it_f h c_20
              refine lv_iload_n hx hb dX10_tooFew_54 rfl (lv_at hl 3 rfl) ?_
              refine lv_goto (tgt := 59) hx hb dX10_tooFew_55 (by decide) ?_
              refine lv_istore_n (lv' := [(1, .int x2), (3, .int y_11), (0, .ref q_t), (2, .int x2)]) hx hb dX10_tooFew_59 rfl hl (by decide) rfl (fun ls hl => ?_)
              obtain ⟨x2_22, ex2_22, h⟩ := pl_ok h
              refine lv_iinc (v := x2_22) (lv' := [(2, .int x2_22), (1, .int x2), (3, .int y_11), (0, .ref q_t)]) hx hb dX10_tooFew_60 hl (k := 3) rfl (by rw [ex2_22]; rfl) (by decide) rfl (fun ls hl => ?_)
              refine lv_goto (tgt := 8) hx hb dX10_tooFew_63 (by decide) ?_
              obtain rfl := sm1 h
              exact ih x2 x2_22 hk H locs ls hP hD hS (lv_sub hl [3, 1, 0] rfl)
      replace h := hr
      clear hr
      refine lv_icmp_ge (tgt := 31) hx hb dX10_tooFew_24 (by decide) (fun c_10 => ?_) (fun c_10 => ?_)
      · replace h := it_t h c_10
        refine lv_iconst (v := 0) hx hb dX10_tooFew_31 (by decide) ?_
        obtain rfl := sm1 h
        exact J H locs ls hP hD hS (lv_sub hl [0, 1, 2] rfl)
      · replace h := it_f h c_10
        refine lv_iconst (v := 1) hx hb dX10_tooFew_27 (by decide) ?_
        refine lv_goto (tgt := 32) hx hb dX10_tooFew_28 (by decide) ?_
        obtain rfl := sm1 h
        exact J H locs ls hP hD hS (lv_sub hl [0, 1, 2] rfl)
set_option maxHeartbeats 4000000 in
set_option maxRecDepth 100000 in
theorem k_X10_tooFew {p : Program} {l : Launch} {e : Env} {s : State} {m : MethodId} {args : Array Value} {below : List Frame} {meth : Method} {c : Code} {Q : State → Prop} {A0 : Nat → Prop} {H0 : Heap} (C : CallFix p m c cX10_tooFew 4 s args wsX10_tooFew RX10) (G : GT) (hK : gK G s) (hA : ∀ q : Nat, H0.size ≤ q → A0 q) (q_t q_t_z q_t_old q_t_past q_t_kept q_t_text q_t_order q_t_told q_t_rowsTaken q_t_columnsTaken q_t_ways q_t_scaled q_t_rowFactors q_t_columnFactors q_t_rest q_t_diagonals q_t_weights : Nat) (t_states : Int32) (t_isKept : Int32) (t_length : Int32) (t_spot : Int32) (t_toldRows : Int32) (t_z : Nat → Int32) (r : Int32) (h : f_X10_tooFew t_z = some r) (KR : ∀ (H : Heap) (locs : List Loc) (ls : Array Slot) (pc : Nat), decode cX10_tooFew pc = .ok (.ireturn, 1) → va_P G.1 vwCl [(q_t, .inr (9, [.ref q_t_z, .ref q_t_old, .ref q_t_past, .int t_states, .ref q_t_kept, .int t_isKept, .ref q_t_text, .int t_length, .ref q_t_order, .ref q_t_told, .int t_spot, .int t_toldRows, .ref q_t_rowsTaken, .ref q_t_columnsTaken, .ref q_t_ways, .ref q_t_scaled, .ref q_t_rowFactors, .ref q_t_columnFactors, .ref q_t_rest, .ref q_t_diagonals, .ref q_t_weights])), (q_t_z, .inl (G.2 0, 50, .inl t_z))] H → va_D A0 [(q_t, .inr (9, [.ref q_t_z, .ref q_t_old, .ref q_t_past, .int t_states, .ref q_t_kept, .int t_isKept, .ref q_t_text, .int t_length, .ref q_t_order, .ref q_t_told, .int t_spot, .int t_toldRows, .ref q_t_rowsTaken, .ref q_t_columnsTaken, .ref q_t_ways, .ref q_t_scaled, .ref q_t_rowFactors, .ref q_t_columnFactors, .ref q_t_rest, .ref q_t_diagonals, .ref q_t_weights])), (q_t_z, .inl (G.2 0, 50, .inl t_z))] → va_S A0 H0 H locs → W p l e ({ frames := 1, cells := 0, slots := 0, locals := 23 } : Room) s m args below meth c H locs 0 0 Q (F0 m pc ls [.int r])) : ∀ (H : Heap) (locs : List Loc) (ls : Array Slot), va_P G.1 vwCl [(q_t, .inr (9, [.ref q_t_z, .ref q_t_old, .ref q_t_past, .int t_states, .ref q_t_kept, .int t_isKept, .ref q_t_text, .int t_length, .ref q_t_order, .ref q_t_told, .int t_spot, .int t_toldRows, .ref q_t_rowsTaken, .ref q_t_columnsTaken, .ref q_t_ways, .ref q_t_scaled, .ref q_t_rowFactors, .ref q_t_columnFactors, .ref q_t_rest, .ref q_t_diagonals, .ref q_t_weights])), (q_t_z, .inl (G.2 0, 50, .inl t_z))] H → va_D A0 [(q_t, .inr (9, [.ref q_t_z, .ref q_t_old, .ref q_t_past, .int t_states, .ref q_t_kept, .int t_isKept, .ref q_t_text, .int t_length, .ref q_t_order, .ref q_t_told, .int t_spot, .int t_toldRows, .ref q_t_rowsTaken, .ref q_t_columnsTaken, .ref q_t_ways, .ref q_t_scaled, .ref q_t_rowFactors, .ref q_t_columnFactors, .ref q_t_rest, .ref q_t_diagonals, .ref q_t_weights])), (q_t_z, .inl (G.2 0, 50, .inl t_z))] → va_S A0 H0 H locs → lv_has ls 4 [(0, .ref q_t)] → W p l e ({ frames := 1, cells := 0, slots := 0, locals := 23 } : Room) s m args below meth c H locs 0 0 Q (F0 m 0 ls []) := by
  obtain ⟨hx, hb, hml, hown, hts⟩ := C
  intro H locs ls hP hD hS hl
  rw [f_X10_tooFew] at h
  refine lv_ldc (v := -2000000005) hx hb hown (hts _ wd_X10_tooFew_1) dX10_tooFew_0 ?_
  refine lv_istore_n (lv' := [(1, .int (-2000000005 : Int32)), (0, .ref q_t)]) hx hb dX10_tooFew_2 rfl hl (by decide) rfl (fun ls hl => ?_)
  refine lv_aload_n hx hb dX10_tooFew_3 rfl (lv_at hl 1 rfl) ?_
  obtain ⟨r_1, hf_2, h⟩ := bd_ok h
  refine ck_Vi (rest := []) (wn := [(q_t, .inr (9, [.ref q_t_z, .ref q_t_old, .ref q_t_past, .int t_states, .ref q_t_kept, .int t_isKept, .ref q_t_text, .int t_length, .ref q_t_order, .ref q_t_told, .int t_spot, .int t_toldRows, .ref q_t_rowsTaken, .ref q_t_columnsTaken, .ref q_t_ways, .ref q_t_scaled, .ref q_t_rowFactors, .ref q_t_columnFactors, .ref q_t_rest, .ref q_t_diagonals, .ref q_t_weights])), (q_t_z, .inl (G.2 0, 50, .inl t_z))]) ⟨hx, hb, hml, hown, hts⟩ hK hP hD hS hA [0, 1] [] [0, 1] (c_X10_all l G q_t q_t_z q_t_old q_t_past q_t_kept q_t_text q_t_order q_t_told q_t_rowsTaken q_t_columnsTaken q_t_ways q_t_scaled q_t_rowFactors q_t_columnFactors q_t_rest q_t_diagonals q_t_weights _ t_states t_isKept t_length t_spot t_toldRows t_z _ hf_2) (cwV 0 hts gX10_tooFew_X10_all rfl rfl rfl (by decide +kernel) ⟨Nat.le_of_ble_eq_true rfl, Nat.le_of_ble_eq_true rfl⟩) rfl rfl rfl rfl rfl rfl (by decide) rfl rfl rfl hl.1 rfl (Nat.le_of_ble_eq_true rfl) dX10_tooFew_4 ⟨Nat.zero_le _, Nat.zero_le _⟩ (fun H locs hP hD hS => ?_)
  refine lv_istore_n (lv' := [(2, .int r_1), (1, .int (-2000000005 : Int32)), (0, .ref q_t)]) hx hb dX10_tooFew_7 rfl hl (by decide) rfl (fun ls hl => ?_)
  obtain ⟨x1_23, hz_25, h⟩ := bd_ok h
  refine l_X10_tooFew_1 ⟨hx, hb, hml, hown, hts⟩ G hK hA q_t q_t_z q_t_old q_t_past q_t_kept q_t_text q_t_order q_t_told q_t_rowsTaken q_t_columnsTaken q_t_ways q_t_scaled q_t_rowFactors q_t_columnFactors q_t_rest q_t_diagonals q_t_weights t_states t_isKept t_length t_spot t_toldRows t_z x1_23 ?_ FU (-2000000005 : Int32) r_1 hz_25 H locs ls hP hD hS (lv_sub hl [2, 1, 0] rfl)
  intro H locs ls hP hD hS hl
  refine lv_iload_n hx hb dX10_tooFew_66 rfl (lv_at hl 0 rfl) ?_
  obtain rfl := sm1 h
  exact KR H locs ls 67 dX10_tooFew_67 hP hD hS
set_option maxHeartbeats 4000000 in
set_option maxRecDepth 100000 in
theorem c_X10_tooFew (l : Launch) (G : GT) (q_t q_t_z q_t_old q_t_past q_t_kept q_t_text q_t_order q_t_told q_t_rowsTaken q_t_columnsTaken q_t_ways q_t_scaled q_t_rowFactors q_t_columnFactors q_t_rest q_t_diagonals q_t_weights : Nat) (sz : Nat) (t_states : Int32) (t_isKept : Int32) (t_length : Int32) (t_spot : Int32) (t_toldRows : Int32) (t_z : Nat → Int32) (r : Int32) (h : f_X10_tooFew t_z = some r) : Met l yX10_tooFew wsX10_tooFew ({ frames := 1, cells := 0, slots := 0, locals := 23 } : Room) (va_Pc [.ref q_t] (pcW G [(q_t, .inr (9, [.ref q_t_z, .ref q_t_old, .ref q_t_past, .int t_states, .ref q_t_kept, .int t_isKept, .ref q_t_text, .int t_length, .ref q_t_order, .ref q_t_told, .int t_spot, .int t_toldRows, .ref q_t_rowsTaken, .ref q_t_columnsTaken, .ref q_t_ways, .ref q_t_scaled, .ref q_t_rowFactors, .ref q_t_columnFactors, .ref q_t_rest, .ref q_t_diagonals, .ref q_t_weights])), (q_t_z, .inl (G.2 0, 50, .inl t_z))] sz)) (va_Qi (fun r9 (_ : Unit) => r9 = r) (fun _ t => atW G (va_A [(q_t, .inr (9, [.ref q_t_z, .ref q_t_old, .ref q_t_past, .int t_states, .ref q_t_kept, .int t_isKept, .ref q_t_text, .int t_length, .ref q_t_order, .ref q_t_told, .int t_spot, .int t_toldRows, .ref q_t_rowsTaken, .ref q_t_columnsTaken, .ref q_t_ways, .ref q_t_scaled, .ref q_t_rowFactors, .ref q_t_columnFactors, .ref q_t_rest, .ref q_t_diagonals, .ref q_t_weights])), (q_t_z, .inl (G.2 0, 50, .inl t_z))] sz) [(q_t, .inr (9, [.ref q_t_z, .ref q_t_old, .ref q_t_past, .int t_states, .ref q_t_kept, .int t_isKept, .ref q_t_text, .int t_length, .ref q_t_order, .ref q_t_told, .int t_spot, .int t_toldRows, .ref q_t_rowsTaken, .ref q_t_columnsTaken, .ref q_t_ways, .ref q_t_scaled, .ref q_t_rowFactors, .ref q_t_columnFactors, .ref q_t_rest, .ref q_t_diagonals, .ref q_t_weights])), (q_t_z, .inl (G.2 0, 50, .inl t_z))] t) (va_A [(q_t, .inr (9, [.ref q_t_z, .ref q_t_old, .ref q_t_past, .int t_states, .ref q_t_kept, .int t_isKept, .ref q_t_text, .int t_length, .ref q_t_order, .ref q_t_told, .int t_spot, .int t_toldRows, .ref q_t_rowsTaken, .ref q_t_columnsTaken, .ref q_t_ways, .ref q_t_scaled, .ref q_t_rowFactors, .ref q_t_columnFactors, .ref q_t_rest, .ref q_t_diagonals, .ref q_t_weights])), (q_t_z, .inl (G.2 0, 50, .inl t_z))] sz)) 0 0 (va_A [(q_t, .inr (9, [.ref q_t_z, .ref q_t_old, .ref q_t_past, .int t_states, .ref q_t_kept, .int t_isKept, .ref q_t_text, .int t_length, .ref q_t_order, .ref q_t_told, .int t_spot, .int t_toldRows, .ref q_t_rowsTaken, .ref q_t_columnsTaken, .ref q_t_ways, .ref q_t_scaled, .ref q_t_rowFactors, .ref q_t_columnFactors, .ref q_t_rest, .ref q_t_diagonals, .ref q_t_weights])), (q_t_z, .inl (G.2 0, 50, .inl t_z))] sz) := by
  refine Met.ofW (cc := cX10_tooFew) (maxL := 4) (ret := (some .int)) (by decide) rfl ?_
  intro p e s m args below meth c s₁ B hml hv
  obtain ⟨rfl, hsz, hP, hK, hD0⟩ := hv
  subst hsz
  have hD := hD0.self (sz := s.heap.size)
  generalize hAe : va_A [(q_t, .inr (9, [.ref q_t_z, .ref q_t_old, .ref q_t_past, .int t_states, .ref q_t_kept, .int t_isKept, .ref q_t_text, .int t_length, .ref q_t_order, .ref q_t_told, .int t_spot, .int t_toldRows, .ref q_t_rowsTaken, .ref q_t_columnsTaken, .ref q_t_ways, .ref q_t_scaled, .ref q_t_rowFactors, .ref q_t_columnFactors, .ref q_t_rest, .ref q_t_diagonals, .ref q_t_weights])), (q_t_z, .inl (G.2 0, 50, .inl t_z))] s.heap.size = A at hD ⊢
  have hA : ∀ q : Nat, s.heap.size ≤ q → A q := fun q h => by rw [← hAe]; exact Or.inr h
  have hl := lv_entry ([.ref q_t]) (n := 4) (Nat.le_of_ble_eq_true rfl)
  rw [lg_entry_eq]
  refine k_X10_tooFew ⟨B.exec, B.bytes, hml, findClass_of_methodNamed B.named, atoms_spec (ws := wsX10_tooFew) B.pre⟩ G hK hA q_t q_t_z q_t_old q_t_past q_t_kept q_t_text q_t_order q_t_told q_t_rowsTaken q_t_columnsTaken q_t_ways q_t_scaled q_t_rowFactors q_t_columnFactors q_t_rest q_t_diagonals q_t_weights _ _ _ _ _ _ _ h ?_ _ _ _ hP hD va_S.rf hl
  intro H locs ls pc hd hP hD hS
  exact W.iret B.exec B.bytes B.returns (fun t ht hW => ⟨⟨r, (), rfl, rfl, by rw [ht]; exact hP, hD⟩, hS.F ht⟩) hS.2.2 hd B.notSynchronized
set_option maxRecDepth 20000 in
theorem wd_X10_best_1 : Cond.fieldLink RX10 7 "PermanentDeskModel" "z" "[I" ∈ wsX10_best := List.mem_of_getElem? (i := 1) (by decide +kernel)
set_option maxRecDepth 20000 in
theorem wi_X10_best_X10 : ∀ w ∈ u_ws RX10 TX10 21, w ∈ wsX10_best := by decide +kernel
set_option maxRecDepth 20000 in
theorem wd_X10_best_2 : Cond.fieldLink RX10 25 "PermanentDeskModel" "order" "[I" ∈ wsX10_best := List.mem_of_getElem? (i := 2) (by decide +kernel)
def f_X10_best_L2 (t_z : Nat → Int32) (t_order : Nat → Int32) : (Int32 × Int32) → Option ((Int32 × Int32) ⊕ Int32)
  | (x5, x6) =>
    gd (okI (49 : Int32) 50) (
    if (t_z (49 : Int32).toNatClampNeg) ≤ x6 then
      some (.inr x5)
    else
      gd (okI x6 7) (
      (f_X10_at t_z x6 (t_order x6.toNatClampNeg)).bind (fun r_8 =>
      pl ((x5 + r_8) : Int32) (fun x5_10 =>
      pl ((x6 + (1 : Int32)) : Int32) (fun x6_11 =>
      some (.inl (x5_10, x6_11)))))))
def f_X10_best_L1 (t_z : Nat → Int32) : (Int32 × Int32 × Int32 × (Nat → Int32)) → Option ((Int32 × Int32 × Int32 × (Nat → Int32)) ⊕ (Int32 × Int32 × (Nat → Int32)))
  | (x2, x3, x4, t_order) =>
    if x4 = 0 then
      some (.inr (x2, x3, t_order))
    else
      (lpN (f_X10_best_L2 t_z t_order) FU ((0 : Int32), (0 : Int32))).bind (fun x5_12 =>
      Option.bind (
        if x5_12 ≤ x3 then
          some x2
        else
          (f_X10_number t_z t_order).bind (fun r_17 =>
          some r_17)) (fun y_16 =>
      Option.bind (
        if x5_12 ≤ x3 then
          some x3
        else
          some x5_12) (fun y_20 =>
      gd (okI (49 : Int32) 50) (
      (f_X10_nextOrder t_order (t_z (49 : Int32).toNatClampNeg)).bind (fun (r_23, t_order_22) =>
      some (.inl (y_16, y_20, r_23, t_order_22)))))))
def f_X10_best (t_z : Nat → Int32) (t_order : Nat → Int32) (a1 : Int32) : Option (Int32 × (Nat → Int32)) :=
  gd (okI (49 : Int32) 50) (
  (f_X10_firstOrder t_order (t_z (49 : Int32).toNatClampNeg)).bind (fun t_order_2 =>
  (lpN (f_X10_best_L1 t_z) FU ((0 : Int32), (-1000 : Int32), (1 : Int32), t_order_2)).bind (fun (x2_25, x3_26, t_order_27) =>
  if a1 = 0 then
    some (x2_25, t_order_27)
  else
    some (x3_26, t_order_27))))
set_option maxHeartbeats 4000000 in
set_option maxRecDepth 100000 in
theorem l_X10_best_2 {p : Program} {l : Launch} {e : Env} {s : State} {m : MethodId} {args : Array Value} {below : List Frame} {meth : Method} {c : Code} {Q : State → Prop} {A0 : Nat → Prop} {H0 : Heap} (C : CallFix p m c cX10_best 7 s args wsX10_best RX10) (G : GT) (hK : gK G s) (hA : ∀ q : Nat, H0.size ≤ q → A0 q) (q_t q_t_z q_t_old q_t_past q_t_kept q_t_text q_t_order q_t_told q_t_rowsTaken q_t_columnsTaken q_t_ways q_t_scaled q_t_rowFactors q_t_columnFactors q_t_rest q_t_diagonals q_t_weights : Nat) (x1 : Int32) (x2 : Int32) (x3 : Int32) (t_states : Int32) (t_isKept : Int32) (t_length : Int32) (t_spot : Int32) (t_toldRows : Int32) (t_z : Nat → Int32) (t_order : Nat → Int32) (E_x5 : Int32) (K : ∀ (H : Heap) (locs : List Loc) (ls : Array Slot), va_P G.1 vwCl [(q_t, .inr (9, [.ref q_t_z, .ref q_t_old, .ref q_t_past, .int t_states, .ref q_t_kept, .int t_isKept, .ref q_t_text, .int t_length, .ref q_t_order, .ref q_t_told, .int t_spot, .int t_toldRows, .ref q_t_rowsTaken, .ref q_t_columnsTaken, .ref q_t_ways, .ref q_t_scaled, .ref q_t_rowFactors, .ref q_t_columnFactors, .ref q_t_rest, .ref q_t_diagonals, .ref q_t_weights])), (q_t_z, .inl (G.2 0, 50, .inl t_z)), (q_t_order, .inl (G.2 0, 7, .inl t_order))] H → va_D A0 [(q_t, .inr (9, [.ref q_t_z, .ref q_t_old, .ref q_t_past, .int t_states, .ref q_t_kept, .int t_isKept, .ref q_t_text, .int t_length, .ref q_t_order, .ref q_t_told, .int t_spot, .int t_toldRows, .ref q_t_rowsTaken, .ref q_t_columnsTaken, .ref q_t_ways, .ref q_t_scaled, .ref q_t_rowFactors, .ref q_t_columnFactors, .ref q_t_rest, .ref q_t_diagonals, .ref q_t_weights])), (q_t_z, .inl (G.2 0, 50, .inl t_z)), (q_t_order, .inl (G.2 0, 7, .inl t_order))] → va_S A0 H0 H locs → lv_has ls 7 [(0, .ref q_t), (1, .int x1), (2, .int x2), (3, .int x3), (5, .int E_x5)] → W p l e ({ frames := 2, cells := 0, slots := 0, locals := 48 } : Room) s m args below meth c H locs 0 0 Q (F0 m 67 ls [])) : ∀ (n : Nat) (x5 : Int32) (x6 : Int32), lpN (f_X10_best_L2 t_z t_order) n (x5, x6) = some E_x5 → ∀ (H : Heap) (locs : List Loc) (ls : Array Slot), va_P G.1 vwCl [(q_t, .inr (9, [.ref q_t_z, .ref q_t_old, .ref q_t_past, .int t_states, .ref q_t_kept, .int t_isKept, .ref q_t_text, .int t_length, .ref q_t_order, .ref q_t_told, .int t_spot, .int t_toldRows, .ref q_t_rowsTaken, .ref q_t_columnsTaken, .ref q_t_ways, .ref q_t_scaled, .ref q_t_rowFactors, .ref q_t_columnFactors, .ref q_t_rest, .ref q_t_diagonals, .ref q_t_weights])), (q_t_z, .inl (G.2 0, 50, .inl t_z)), (q_t_order, .inl (G.2 0, 7, .inl t_order))] H → va_D A0 [(q_t, .inr (9, [.ref q_t_z, .ref q_t_old, .ref q_t_past, .int t_states, .ref q_t_kept, .int t_isKept, .ref q_t_text, .int t_length, .ref q_t_order, .ref q_t_told, .int t_spot, .int t_toldRows, .ref q_t_rowsTaken, .ref q_t_columnsTaken, .ref q_t_ways, .ref q_t_scaled, .ref q_t_rowFactors, .ref q_t_columnFactors, .ref q_t_rest, .ref q_t_diagonals, .ref q_t_weights])), (q_t_z, .inl (G.2 0, 50, .inl t_z)), (q_t_order, .inl (G.2 0, 7, .inl t_order))] → va_S A0 H0 H locs → lv_has ls 7 [(0, .ref q_t), (1, .int x1), (2, .int x2), (3, .int x3), (5, .int x5), (6, .int x6)] → W p l e ({ frames := 2, cells := 0, slots := 0, locals := 48 } : Room) s m args below meth c H locs 0 0 Q (F0 m 31 ls []) := by
  obtain ⟨hx, hb, hml, hown, hts⟩ := C
  intro n
  induction n with
  | zero => intro x5 x6 h; exact absurd h (fun h => lp_0 h)
  | succ n ih =>
    intro x5 x6 h H locs ls hP hD hS hl
    obtain ⟨y, h, hk⟩ := lp_s h
    rw [f_X10_best_L2] at h
    refine lv_iload hx hb dX10_best_31 (lv_at hl 5 rfl) ?_
    refine lv_aload_n hx hb dX10_best_33 rfl (lv_at hl 0 rfl) ?_
    refine va_get (D := G.1) (ci := 9) (v := .ref q_t_z) (C := RX10) (T := TX10) (N := 21) hx hb hts wi_X10_best_X10 hown hK hP 0 rfl rfl 0 (by decide) (hts _ wd_X10_best_1) (fun _ h9 => h9) rfl dX10_best_34 ?_
    refine lv_bipush (v := 49) hx hb dX10_best_37 (by decide) ?_
    obtain ⟨g_5, h⟩ := gd_ok h
    refine va_iald (D := G.1) hx hb hK hP 1 0 rfl rfl g_5 dX10_best_39 ?_
    refine lv_icmp_ge (tgt := 67) hx hb dX10_best_40 (by decide) (fun c_6 => ?_) (fun c_6 => ?_)
    · replace h := it_t h c_6
      obtain rfl := sm1 h
      obtain rfl := sm1 hk
      exact K H locs ls hP hD hS (lv_sub hl [0, 1, 2, 3, 4] rfl)
    · replace h := it_f h c_6
      refine lv_iload hx hb dX10_best_43 (lv_at hl 4 rfl) ?_
      refine lv_aload_n hx hb dX10_best_45 rfl (lv_at hl 0 rfl) ?_
      refine lv_iload hx hb dX10_best_46 (lv_at hl 5 rfl) ?_
      refine lv_aload_n hx hb dX10_best_48 rfl (lv_at hl 0 rfl) ?_
      refine va_get (D := G.1) (ci := 9) (v := .ref q_t_order) (C := RX10) (T := TX10) (N := 21) hx hb hts wi_X10_best_X10 hown hK hP 0 rfl rfl 8 (by decide) (hts _ wd_X10_best_2) (fun _ h9 => h9) rfl dX10_best_49 ?_
      refine lv_iload hx hb dX10_best_52 (lv_at hl 5 rfl) ?_
      obtain ⟨g_7, h⟩ := gd_ok h
      refine va_iald (D := G.1) hx hb hK hP 2 0 rfl rfl g_7 dX10_best_54 ?_
      obtain ⟨r_8, hf_9, h⟩ := bd_ok h
      refine ck_Vi (rest := [.int x5]) (wn := [(q_t, .inr (9, [.ref q_t_z, .ref q_t_old, .ref q_t_past, .int t_states, .ref q_t_kept, .int t_isKept, .ref q_t_text, .int t_length, .ref q_t_order, .ref q_t_told, .int t_spot, .int t_toldRows, .ref q_t_rowsTaken, .ref q_t_columnsTaken, .ref q_t_ways, .ref q_t_scaled, .ref q_t_rowFactors, .ref q_t_columnFactors, .ref q_t_rest, .ref q_t_diagonals, .ref q_t_weights])), (q_t_z, .inl (G.2 0, 50, .inl t_z)), (q_t_order, .inl (G.2 0, 7, .inl t_order))]) ⟨hx, hb, hml, hown, hts⟩ hK hP hD hS hA [0, 1] [2] [1, 2, 0] (c_X10_at l G q_t q_t_z q_t_old q_t_past q_t_kept q_t_text q_t_order q_t_told q_t_rowsTaken q_t_columnsTaken q_t_ways q_t_scaled q_t_rowFactors q_t_columnFactors q_t_rest q_t_diagonals q_t_weights _ t_states t_isKept t_length t_spot t_toldRows t_z x6 (t_order x6.toNatClampNeg) _ hf_9) (cwV 2 hts gX10_best_X10_at rfl rfl rfl (by decide +kernel) ⟨Nat.le_of_ble_eq_true rfl, Nat.le_of_ble_eq_true rfl⟩) rfl rfl rfl rfl rfl rfl (by decide) rfl rfl rfl hl.1 rfl (Nat.le_of_ble_eq_true rfl) dX10_best_55 ⟨Nat.zero_le _, Nat.zero_le _⟩ (fun H locs hP hD hS => ?_)
      refine lv_iadd hx hb dX10_best_58 ?_
      refine lv_topi (fun x5_10 ex5_10 => ?_)
      replace h := pl_v h ex5_10
      refine lv_istore (lv' := [(5, .int x5_10), (0, .ref q_t), (1, .int x1), (2, .int x2), (3, .int x3), (6, .int x6)]) hx hb dX10_best_59 hl (by decide) rfl (fun ls hl => ?_)
      obtain ⟨x6_11, ex6_11, h⟩ := pl_ok h
      refine lv_iinc (v := x6_11) (lv' := [(6, .int x6_11), (5, .int x5_10), (0, .ref q_t), (1, .int x1), (2, .int x2), (3, .int x3)]) hx hb dX10_best_61 hl (k := 5) rfl (by rw [ex6_11]; rfl) (by decide) rfl (fun ls hl => ?_)
      refine lv_goto (tgt := 31) hx hb dX10_best_64 (by decide) ?_
      obtain rfl := sm1 h
      exact ih x5_10 x6_11 hk H locs ls hP hD hS (lv_sub hl [2, 3, 4, 5, 1, 0] rfl)
set_option maxHeartbeats 4000000 in
set_option maxRecDepth 100000 in
theorem l_X10_best_1 {p : Program} {l : Launch} {e : Env} {s : State} {m : MethodId} {args : Array Value} {below : List Frame} {meth : Method} {c : Code} {Q : State → Prop} {A0 : Nat → Prop} {H0 : Heap} (C : CallFix p m c cX10_best 7 s args wsX10_best RX10) (G : GT) (hK : gK G s) (hA : ∀ q : Nat, H0.size ≤ q → A0 q) (q_t q_t_z q_t_old q_t_past q_t_kept q_t_text q_t_order q_t_told q_t_rowsTaken q_t_columnsTaken q_t_ways q_t_scaled q_t_rowFactors q_t_columnFactors q_t_rest q_t_diagonals q_t_weights : Nat) (x1 : Int32) (t_states : Int32) (t_isKept : Int32) (t_length : Int32) (t_spot : Int32) (t_toldRows : Int32) (t_z : Nat → Int32) (E_x2 : Int32) (E_x3 : Int32) (E_t_order : Nat → Int32) (K : ∀ (H : Heap) (locs : List Loc) (ls : Array Slot), va_P G.1 vwCl [(q_t, .inr (9, [.ref q_t_z, .ref q_t_old, .ref q_t_past, .int t_states, .ref q_t_kept, .int t_isKept, .ref q_t_text, .int t_length, .ref q_t_order, .ref q_t_told, .int t_spot, .int t_toldRows, .ref q_t_rowsTaken, .ref q_t_columnsTaken, .ref q_t_ways, .ref q_t_scaled, .ref q_t_rowFactors, .ref q_t_columnFactors, .ref q_t_rest, .ref q_t_diagonals, .ref q_t_weights])), (q_t_z, .inl (G.2 0, 50, .inl t_z)), (q_t_order, .inl (G.2 0, 7, .inl E_t_order))] H → va_D A0 [(q_t, .inr (9, [.ref q_t_z, .ref q_t_old, .ref q_t_past, .int t_states, .ref q_t_kept, .int t_isKept, .ref q_t_text, .int t_length, .ref q_t_order, .ref q_t_told, .int t_spot, .int t_toldRows, .ref q_t_rowsTaken, .ref q_t_columnsTaken, .ref q_t_ways, .ref q_t_scaled, .ref q_t_rowFactors, .ref q_t_columnFactors, .ref q_t_rest, .ref q_t_diagonals, .ref q_t_weights])), (q_t_z, .inl (G.2 0, 50, .inl t_z)), (q_t_order, .inl (G.2 0, 7, .inl E_t_order))] → va_S A0 H0 H locs → lv_has ls 7 [(1, .int x1), (2, .int E_x2), (3, .int E_x3)] → W p l e ({ frames := 2, cells := 0, slots := 0, locals := 48 } : Room) s m args below meth c H locs 0 0 Q (F0 m 111 ls [])) : ∀ (n : Nat) (x2 : Int32) (x3 : Int32) (x4 : Int32) (t_order : Nat → Int32), lpN (f_X10_best_L1 t_z) n (x2, x3, x4, t_order) = some (E_x2, E_x3, E_t_order) → ∀ (H : Heap) (locs : List Loc) (ls : Array Slot), va_P G.1 vwCl [(q_t, .inr (9, [.ref q_t_z, .ref q_t_old, .ref q_t_past, .int t_states, .ref q_t_kept, .int t_isKept, .ref q_t_text, .int t_length, .ref q_t_order, .ref q_t_told, .int t_spot, .int t_toldRows, .ref q_t_rowsTaken, .ref q_t_columnsTaken, .ref q_t_ways, .ref q_t_scaled, .ref q_t_rowFactors, .ref q_t_columnFactors, .ref q_t_rest, .ref q_t_diagonals, .ref q_t_weights])), (q_t_z, .inl (G.2 0, 50, .inl t_z)), (q_t_order, .inl (G.2 0, 7, .inl t_order))] H → va_D A0 [(q_t, .inr (9, [.ref q_t_z, .ref q_t_old, .ref q_t_past, .int t_states, .ref q_t_kept, .int t_isKept, .ref q_t_text, .int t_length, .ref q_t_order, .ref q_t_told, .int t_spot, .int t_toldRows, .ref q_t_rowsTaken, .ref q_t_columnsTaken, .ref q_t_ways, .ref q_t_scaled, .ref q_t_rowFactors, .ref q_t_columnFactors, .ref q_t_rest, .ref q_t_diagonals, .ref q_t_weights])), (q_t_z, .inl (G.2 0, 50, .inl t_z)), (q_t_order, .inl (G.2 0, 7, .inl t_order))] → va_S A0 H0 H locs → lv_has ls 7 [(0, .ref q_t), (1, .int x1), (2, .int x2), (3, .int x3), (4, .int x4)] → W p l e ({ frames := 2, cells := 0, slots := 0, locals := 48 } : Room) s m args below meth c H locs 0 0 Q (F0 m 20 ls []) := by
  obtain ⟨hx, hb, hml, hown, hts⟩ := C
  intro n
  induction n with
  | zero => intro x2 x3 x4 t_order h; exact absurd h (fun h => lp_0 h)
  | succ n ih =>
    intro x2 x3 x4 t_order h H locs ls hP hD hS hl
    obtain ⟨y, h, hk⟩ := lp_s h
    rw [f_X10_best_L1] at h
    refine lv_iload hx hb dX10_best_20 (lv_at hl 4 rfl) ?_
    refine lv_if_eq (tgt := 111) hx hb dX10_best_22 (by decide) (fun c_4 => ?_) (fun c_4 => ?_)
    · replace h := it_t h c_4
      obtain rfl := sm1 h
      obtain ⟨rfl, rfl, rfl⟩ := sm3 hk
      exact K H locs ls hP hD hS (lv_sub hl [1, 2, 3] rfl)
    · replace h := it_f h c_4
      refine lv_iconst (v := 0) hx hb dX10_best_25 (by decide) ?_
      refine lv_istore (lv' := [(5, .int (0 : Int32)), (0, .ref q_t), (1, .int x1), (2, .int x2), (3, .int x3), (4, .int x4)]) hx hb dX10_best_26 hl (by decide) rfl (fun ls hl => ?_)
      refine lv_iconst (v := 0) hx hb dX10_best_28 (by decide) ?_
      refine lv_istore (lv' := [(6, .int (0 : Int32)), (5, .int (0 : Int32)), (0, .ref q_t), (1, .int x1), (2, .int x2), (3, .int x3), (4, .int x4)]) hx hb dX10_best_29 hl (by decide) rfl (fun ls hl => ?_)
      obtain ⟨x5_12, hz_14, h⟩ := bd_ok h
      refine l_X10_best_2 ⟨hx, hb, hml, hown, hts⟩ G hK hA q_t q_t_z q_t_old q_t_past q_t_kept q_t_text q_t_order q_t_told q_t_rowsTaken q_t_columnsTaken q_t_ways q_t_scaled q_t_rowFactors q_t_columnFactors q_t_rest q_t_diagonals q_t_weights x1 x2 x3 t_states t_isKept t_length t_spot t_toldRows t_z t_order x5_12 ?_ FU (0 : Int32) (0 : Int32) hz_14 H locs ls hP hD hS (lv_sub hl [2, 3, 4, 5, 1, 0] rfl)
      intro H locs ls hP hD hS hl
      refine lv_iload hx hb dX10_best_67 (lv_at hl 4 rfl) ?_
      refine lv_iload_n hx hb dX10_best_69 rfl (lv_at hl 3 rfl) ?_
      obtain ⟨y_16, hr, h⟩ := bd_ok h
      have J : ∀ (H : Heap) (locs : List Loc) (ls : Array Slot), va_P G.1 vwCl [(q_t, .inr (9, [.ref q_t_z, .ref q_t_old, .ref q_t_past, .int t_states, .ref q_t_kept, .int t_isKept, .ref q_t_text, .int t_length, .ref q_t_order, .ref q_t_told, .int t_spot, .int t_toldRows, .ref q_t_rowsTaken, .ref q_t_columnsTaken, .ref q_t_ways, .ref q_t_scaled, .ref q_t_rowFactors, .ref q_t_columnFactors, .ref q_t_rest, .ref q_t_diagonals, .ref q_t_weights])), (q_t_z, .inl (G.2 0, 50, .inl t_z)), (q_t_order, .inl (G.2 0, 7, .inl t_order))] H → va_D A0 [(q_t, .inr (9, [.ref q_t_z, .ref q_t_old, .ref q_t_past, .int t_states, .ref q_t_kept, .int t_isKept, .ref q_t_text, .int t_length, .ref q_t_order, .ref q_t_told, .int t_spot, .int t_toldRows, .ref q_t_rowsTaken, .ref q_t_columnsTaken, .ref q_t_ways, .ref q_t_scaled, .ref q_t_rowFactors, .ref q_t_columnFactors, .ref q_t_rest, .ref q_t_diagonals, .ref q_t_weights])), (q_t_z, .inl (G.2 0, 50, .inl t_z)), (q_t_order, .inl (G.2 0, 7, .inl t_order))] → va_S A0 H0 H locs → lv_has ls 7 [(0, .ref q_t), (1, .int x1), (3, .int x3), (5, .int x5_12)] → W p l e ({ frames := 2, cells := 0, slots := 0, locals := 48 } : Room) s m args below meth c H locs 0 0 Q (F0 m 81 ls [.int y_16]) := by
        intro H locs ls hP hD hS hl
        refine lv_istore_n (lv' := [(2, .int y_16), (0, .ref q_t), (1, .int x1), (3, .int x3), (5, .int x5_12)]) hx hb dX10_best_81 rfl hl (by decide) rfl (fun ls hl => ?_)
        refine lv_iload hx hb dX10_best_82 (lv_at hl 4 rfl) ?_
        refine lv_iload_n hx hb dX10_best_84 rfl (lv_at hl 3 rfl) ?_
        obtain ⟨y_20, hr, h⟩ := bd_ok h
        have J : ∀ (H : Heap) (locs : List Loc) (ls : Array Slot), va_P G.1 vwCl [(q_t, .inr (9, [.ref q_t_z, .ref q_t_old, .ref q_t_past, .int t_states, .ref q_t_kept, .int t_isKept, .ref q_t_text, .int t_length, .ref q_t_order, .ref q_t_told, .int t_spot, .int t_toldRows, .ref q_t_rowsTaken, .ref q_t_columnsTaken, .ref q_t_ways, .ref q_t_scaled, .ref q_t_rowFactors, .ref q_t_columnFactors, .ref q_t_rest, .ref q_t_diagonals, .ref q_t_weights])), (q_t_z, .inl (G.2 0, 50, .inl t_z)), (q_t_order, .inl (G.2 0, 7, .inl t_order))] H → va_D A0 [(q_t, .inr (9, [.ref q_t_z, .ref q_t_old, .ref q_t_past, .int t_states, .ref q_t_kept, .int t_isKept, .ref q_t_text, .int t_length, .ref q_t_order, .ref q_t_told, .int t_spot, .int t_toldRows, .ref q_t_rowsTaken, .ref q_t_columnsTaken, .ref q_t_ways, .ref q_t_scaled, .ref q_t_rowFactors, .ref q_t_columnFactors, .ref q_t_rest, .ref q_t_diagonals, .ref q_t_weights])), (q_t_z, .inl (G.2 0, 50, .inl t_z)), (q_t_order, .inl (G.2 0, 7, .inl t_order))] → va_S A0 H0 H locs → lv_has ls 7 [(0, .ref q_t), (1, .int x1), (2, .int y_16)] → W p l e ({ frames := 2, cells := 0, slots := 0, locals := 48 } : Room) s m args below meth c H locs 0 0 Q (F0 m 94 ls [.int y_20]) := by
          intro H locs ls hP hD hS hl
          refine lv_istore_n (lv' := [(3, .int y_20), (0, .ref q_t), (1, .int x1), (2, .int y_16)]) hx hb dX10_best_94 rfl hl (by decide) rfl (fun ls hl => ?_)
          refine lv_aload_n hx hb dX10_best_95 rfl (lv_at hl 1 rfl) ?_
          refine lv_aload_n hx hb dX10_best_96 rfl (lv_at hl 1 rfl) ?_
          refine va_get (D := G.1) (ci := 9) (v := .ref q_t_z) (C := RX10) (T := TX10) (N := 21) hx hb hts wi_X10_best_X10 hown hK hP 0 rfl rfl 0 (by decide) (hts _ wd_X10_best_1) (fun _ h9 => h9) rfl dX10_best_97 ?_
          refine lv_bipush (v := 49) hx hb dX10_best_100 (by decide) ?_
          obtain ⟨g_21, h⟩ := gd_ok h
          refine va_iald (D := G.1) hx hb hK hP 1 0 rfl rfl g_21 dX10_best_102 ?_
          obtain ⟨⟨r_23, t_order_22⟩, hf_24, h⟩ := bd_ok h
          refine ck_Vi (rest := []) (wn := [(q_t, .inr (9, [.ref q_t_z, .ref q_t_old, .ref q_t_past, .int t_states, .ref q_t_kept, .int t_isKept, .ref q_t_text, .int t_length, .ref q_t_order, .ref q_t_told, .int t_spot, .int t_toldRows, .ref q_t_rowsTaken, .ref q_t_columnsTaken, .ref q_t_ways, .ref q_t_scaled, .ref q_t_rowFactors, .ref q_t_columnFactors, .ref q_t_rest, .ref q_t_diagonals, .ref q_t_weights])), (q_t_z, .inl (G.2 0, 50, .inl t_z)), (q_t_order, .inl (G.2 0, 7, .inl t_order_22))]) ⟨hx, hb, hml, hown, hts⟩ hK hP hD hS hA [0, 2] [1] [1, 0, 2] (c_X10_nextOrder l G q_t q_t_z q_t_old q_t_past q_t_kept q_t_text q_t_order q_t_told q_t_rowsTaken q_t_columnsTaken q_t_ways q_t_scaled q_t_rowFactors q_t_columnFactors q_t_rest q_t_diagonals q_t_weights _ t_states t_isKept t_length t_spot t_toldRows t_order (t_z (49 : Int32).toNatClampNeg) _ _ hf_24) (cwV 1 hts gX10_best_X10_nextOrder rfl rfl rfl (by decide +kernel) ⟨Nat.le_of_ble_eq_true rfl, Nat.le_of_ble_eq_true rfl⟩) rfl rfl rfl rfl rfl rfl (by decide) rfl rfl rfl hl.1 rfl (Nat.le_of_ble_eq_true rfl) dX10_best_103 ⟨Nat.zero_le _, Nat.zero_le _⟩ (fun H locs hP hD hS => ?_)
          refine lv_istore (lv' := [(4, .int r_23), (3, .int y_20), (0, .ref q_t), (1, .int x1), (2, .int y_16)]) hx hb dX10_best_106 hl (by decide) rfl (fun ls hl => ?_)
          refine lv_goto (tgt := 20) hx hb dX10_best_108 (by decide) ?_
          obtain rfl := sm1 h
          exact ih y_16 y_20 r_23 t_order_22 hk H locs ls hP hD hS (lv_sub hl [2, 3, 4, 1, 0] rfl)
        replace h := hr
        clear hr
        refine lv_icmp_le (tgt := 93) hx hb dX10_best_85 (by decide) (fun c_19 => ?_) (fun c_19 => ?_)
        · replace h := it_t h c_19
          refine lv_iload_n hx hb dX10_best_93 rfl (lv_at hl 3 rfl) ?_
          obtain rfl := sm1 h
          exact J H locs ls hP hD hS (lv_sub hl [1, 2, 0] rfl)
        · replace h := it_f h c_19
          refine lv_iload hx hb dX10_best_88 (lv_at hl 4 rfl) ?_
          refine lv_goto (tgt := 94) hx hb dX10_best_90 (by decide) ?_
          obtain rfl := sm1 h
          exact J H locs ls hP hD hS (lv_sub hl [1, 2, 0] rfl)
      replace h := hr
      clear hr
      refine lv_icmp_le (tgt := 80) hx hb dX10_best_70 (by decide) (fun c_15 => ?_) (fun c_15 => ?_)
      · replace h := it_t h c_15
        refine lv_iload_n hx hb dX10_best_80 rfl (lv_at hl 2 rfl) ?_
        obtain rfl := sm1 h
        exact J H locs ls hP hD hS (lv_sub hl [0, 1, 3, 4] rfl)
      · replace h := it_f h c_15
        refine lv_aload_n hx hb dX10_best_73 rfl (lv_at hl 0 rfl) ?_
        obtain ⟨r_17, hf_18, h⟩ := bd_ok h
        refine ck_Vi (rest := []) (wn := [(q_t, .inr (9, [.ref q_t_z, .ref q_t_old, .ref q_t_past, .int t_states, .ref q_t_kept, .int t_isKept, .ref q_t_text, .int t_length, .ref q_t_order, .ref q_t_told, .int t_spot, .int t_toldRows, .ref q_t_rowsTaken, .ref q_t_columnsTaken, .ref q_t_ways, .ref q_t_scaled, .ref q_t_rowFactors, .ref q_t_columnFactors, .ref q_t_rest, .ref q_t_diagonals, .ref q_t_weights])), (q_t_z, .inl (G.2 0, 50, .inl t_z)), (q_t_order, .inl (G.2 0, 7, .inl t_order))]) ⟨hx, hb, hml, hown, hts⟩ hK hP hD hS hA [0, 1, 2] [] [0, 1, 2] (c_X10_number l G q_t q_t_z q_t_old q_t_past q_t_kept q_t_text q_t_order q_t_told q_t_rowsTaken q_t_columnsTaken q_t_ways q_t_scaled q_t_rowFactors q_t_columnFactors q_t_rest q_t_diagonals q_t_weights _ t_states t_isKept t_length t_spot t_toldRows t_z t_order _ hf_18) (cwV 0 hts gX10_best_X10_number rfl rfl rfl (by decide +kernel) ⟨Nat.le_of_ble_eq_true rfl, Nat.le_of_ble_eq_true rfl⟩) rfl rfl rfl rfl rfl rfl (by decide) rfl rfl rfl hl.1 rfl (Nat.le_of_ble_eq_true rfl) dX10_best_74 ⟨Nat.zero_le _, Nat.zero_le _⟩ (fun H locs hP hD hS => ?_)
        refine lv_goto (tgt := 81) hx hb dX10_best_77 (by decide) ?_
        obtain rfl := sm1 h
        exact J H locs ls hP hD hS (lv_sub hl [0, 1, 3, 4] rfl)
set_option maxHeartbeats 4000000 in
set_option maxRecDepth 100000 in
theorem k_X10_best {p : Program} {l : Launch} {e : Env} {s : State} {m : MethodId} {args : Array Value} {below : List Frame} {meth : Method} {c : Code} {Q : State → Prop} {A0 : Nat → Prop} {H0 : Heap} (C : CallFix p m c cX10_best 7 s args wsX10_best RX10) (G : GT) (hK : gK G s) (hA : ∀ q : Nat, H0.size ≤ q → A0 q) (q_t q_t_z q_t_old q_t_past q_t_kept q_t_text q_t_order q_t_told q_t_rowsTaken q_t_columnsTaken q_t_ways q_t_scaled q_t_rowFactors q_t_columnFactors q_t_rest q_t_diagonals q_t_weights : Nat) (t_states : Int32) (t_isKept : Int32) (t_length : Int32) (t_spot : Int32) (t_toldRows : Int32) (t_z : Nat → Int32) (t_order : Nat → Int32) (a1 : Int32) (r : Int32) (o_t_order : Nat → Int32) (h : f_X10_best t_z t_order a1 = some (r, o_t_order)) (KR : ∀ (H : Heap) (locs : List Loc) (ls : Array Slot) (pc : Nat), decode cX10_best pc = .ok (.ireturn, 1) → va_P G.1 vwCl [(q_t, .inr (9, [.ref q_t_z, .ref q_t_old, .ref q_t_past, .int t_states, .ref q_t_kept, .int t_isKept, .ref q_t_text, .int t_length, .ref q_t_order, .ref q_t_told, .int t_spot, .int t_toldRows, .ref q_t_rowsTaken, .ref q_t_columnsTaken, .ref q_t_ways, .ref q_t_scaled, .ref q_t_rowFactors, .ref q_t_columnFactors, .ref q_t_rest, .ref q_t_diagonals, .ref q_t_weights])), (q_t_z, .inl (G.2 0, 50, .inl t_z)), (q_t_order, .inl (G.2 0, 7, .inl o_t_order))] H → va_D A0 [(q_t, .inr (9, [.ref q_t_z, .ref q_t_old, .ref q_t_past, .int t_states, .ref q_t_kept, .int t_isKept, .ref q_t_text, .int t_length, .ref q_t_order, .ref q_t_told, .int t_spot, .int t_toldRows, .ref q_t_rowsTaken, .ref q_t_columnsTaken, .ref q_t_ways, .ref q_t_scaled, .ref q_t_rowFactors, .ref q_t_columnFactors, .ref q_t_rest, .ref q_t_diagonals, .ref q_t_weights])), (q_t_z, .inl (G.2 0, 50, .inl t_z)), (q_t_order, .inl (G.2 0, 7, .inl o_t_order))] → va_S A0 H0 H locs → W p l e ({ frames := 2, cells := 0, slots := 0, locals := 48 } : Room) s m args below meth c H locs 0 0 Q (F0 m pc ls [.int r])) : ∀ (H : Heap) (locs : List Loc) (ls : Array Slot), va_P G.1 vwCl [(q_t, .inr (9, [.ref q_t_z, .ref q_t_old, .ref q_t_past, .int t_states, .ref q_t_kept, .int t_isKept, .ref q_t_text, .int t_length, .ref q_t_order, .ref q_t_told, .int t_spot, .int t_toldRows, .ref q_t_rowsTaken, .ref q_t_columnsTaken, .ref q_t_ways, .ref q_t_scaled, .ref q_t_rowFactors, .ref q_t_columnFactors, .ref q_t_rest, .ref q_t_diagonals, .ref q_t_weights])), (q_t_z, .inl (G.2 0, 50, .inl t_z)), (q_t_order, .inl (G.2 0, 7, .inl t_order))] H → va_D A0 [(q_t, .inr (9, [.ref q_t_z, .ref q_t_old, .ref q_t_past, .int t_states, .ref q_t_kept, .int t_isKept, .ref q_t_text, .int t_length, .ref q_t_order, .ref q_t_told, .int t_spot, .int t_toldRows, .ref q_t_rowsTaken, .ref q_t_columnsTaken, .ref q_t_ways, .ref q_t_scaled, .ref q_t_rowFactors, .ref q_t_columnFactors, .ref q_t_rest, .ref q_t_diagonals, .ref q_t_weights])), (q_t_z, .inl (G.2 0, 50, .inl t_z)), (q_t_order, .inl (G.2 0, 7, .inl t_order))] → va_S A0 H0 H locs → lv_has ls 7 [(0, .ref q_t), (1, .int a1)] → W p l e ({ frames := 2, cells := 0, slots := 0, locals := 48 } : Room) s m args below meth c H locs 0 0 Q (F0 m 0 ls []) := by
  obtain ⟨hx, hb, hml, hown, hts⟩ := C
  intro H locs ls hP hD hS hl
  rw [f_X10_best] at h
  refine lv_iconst (v := 0) hx hb dX10_best_0 (by decide) ?_
  refine lv_istore_n (lv' := [(2, .int (0 : Int32)), (0, .ref q_t), (1, .int a1)]) hx hb dX10_best_1 rfl hl (by decide) rfl (fun ls hl => ?_)
  refine lv_sipush (v := -1000) hx hb dX10_best_2 (by decide) ?_
  refine lv_istore_n (lv' := [(3, .int (-1000 : Int32)), (2, .int (0 : Int32)), (0, .ref q_t), (1, .int a1)]) hx hb dX10_best_5 rfl hl (by decide) rfl (fun ls hl => ?_)
  refine lv_aload_n hx hb dX10_best_6 rfl (lv_at hl 2 rfl) ?_
  refine lv_aload_n hx hb dX10_best_7 rfl (lv_at hl 2 rfl) ?_
  refine va_get (D := G.1) (ci := 9) (v := .ref q_t_z) (C := RX10) (T := TX10) (N := 21) hx hb hts wi_X10_best_X10 hown hK hP 0 rfl rfl 0 (by decide) (hts _ wd_X10_best_1) (fun _ h9 => h9) rfl dX10_best_8 ?_
  refine lv_bipush (v := 49) hx hb dX10_best_11 (by decide) ?_
  obtain ⟨g_1, h⟩ := gd_ok h
  refine va_iald (D := G.1) hx hb hK hP 1 0 rfl rfl g_1 dX10_best_13 ?_
  obtain ⟨t_order_2, hf_3, h⟩ := bd_ok h
  refine ck_Vv (rest := []) (wn := [(q_t, .inr (9, [.ref q_t_z, .ref q_t_old, .ref q_t_past, .int t_states, .ref q_t_kept, .int t_isKept, .ref q_t_text, .int t_length, .ref q_t_order, .ref q_t_told, .int t_spot, .int t_toldRows, .ref q_t_rowsTaken, .ref q_t_columnsTaken, .ref q_t_ways, .ref q_t_scaled, .ref q_t_rowFactors, .ref q_t_columnFactors, .ref q_t_rest, .ref q_t_diagonals, .ref q_t_weights])), (q_t_z, .inl (G.2 0, 50, .inl t_z)), (q_t_order, .inl (G.2 0, 7, .inl t_order_2))]) ⟨hx, hb, hml, hown, hts⟩ hK hP hD hS hA [0, 2] [1] [1, 0, 2] (c_X10_firstOrder l G q_t q_t_z q_t_old q_t_past q_t_kept q_t_text q_t_order q_t_told q_t_rowsTaken q_t_columnsTaken q_t_ways q_t_scaled q_t_rowFactors q_t_columnFactors q_t_rest q_t_diagonals q_t_weights _ t_states t_isKept t_length t_spot t_toldRows t_order (t_z (49 : Int32).toNatClampNeg) _ hf_3) (cwV 1 hts gX10_best_X10_firstOrder rfl rfl rfl (by decide +kernel) ⟨Nat.le_of_ble_eq_true rfl, Nat.le_of_ble_eq_true rfl⟩) rfl rfl rfl rfl rfl rfl (by decide) rfl rfl rfl hl.1 rfl (Nat.le_of_ble_eq_true rfl) dX10_best_14 ⟨Nat.zero_le _, Nat.zero_le _⟩ (fun H locs hP hD hS => ?_)
  refine lv_iconst (v := 1) hx hb dX10_best_17 (by decide) ?_
  refine lv_istore (lv' := [(4, .int (1 : Int32)), (3, .int (-1000 : Int32)), (2, .int (0 : Int32)), (0, .ref q_t), (1, .int a1)]) hx hb dX10_best_18 hl (by decide) rfl (fun ls hl => ?_)
  obtain ⟨⟨x2_25, x3_26, t_order_27⟩, hz_29, h⟩ := bd_ok h
  refine l_X10_best_1 ⟨hx, hb, hml, hown, hts⟩ G hK hA q_t q_t_z q_t_old q_t_past q_t_kept q_t_text q_t_order q_t_told q_t_rowsTaken q_t_columnsTaken q_t_ways q_t_scaled q_t_rowFactors q_t_columnFactors q_t_rest q_t_diagonals q_t_weights a1 t_states t_isKept t_length t_spot t_toldRows t_z x2_25 x3_26 t_order_27 ?_ FU (0 : Int32) (-1000 : Int32) (1 : Int32) t_order_2 hz_29 H locs ls hP hD hS (lv_sub hl [3, 4, 2, 1, 0] rfl)
  intro H locs ls hP hD hS hl
  refine lv_iload_n hx hb dX10_best_111 rfl (lv_at hl 0 rfl) ?_
  refine lv_if_eq (tgt := 119) hx hb dX10_best_112 (by decide) (fun c_30 => ?_) (fun c_30 => ?_)
  · replace h := it_t h c_30
    refine lv_iload_n hx hb dX10_best_119 rfl (lv_at hl 1 rfl) ?_
    obtain ⟨rfl, rfl⟩ := sm2 h
    exact KR H locs ls 120 dX10_best_120 hP hD hS
  · replace h := it_f h c_30
    refine lv_iload_n hx hb dX10_best_115 rfl (lv_at hl 2 rfl) ?_
    refine lv_goto (tgt := 120) hx hb dX10_best_116 (by decide) ?_
    obtain ⟨rfl, rfl⟩ := sm2 h
    exact KR H locs ls 120 dX10_best_120 hP hD hS
set_option maxHeartbeats 4000000 in
set_option maxRecDepth 100000 in
theorem c_X10_best (l : Launch) (G : GT) (q_t q_t_z q_t_old q_t_past q_t_kept q_t_text q_t_order q_t_told q_t_rowsTaken q_t_columnsTaken q_t_ways q_t_scaled q_t_rowFactors q_t_columnFactors q_t_rest q_t_diagonals q_t_weights : Nat) (sz : Nat) (t_states : Int32) (t_isKept : Int32) (t_length : Int32) (t_spot : Int32) (t_toldRows : Int32) (t_z : Nat → Int32) (t_order : Nat → Int32) (a1 : Int32) (r : Int32) (o_t_order : Nat → Int32) (h : f_X10_best t_z t_order a1 = some (r, o_t_order)) : Met l yX10_best wsX10_best ({ frames := 2, cells := 0, slots := 0, locals := 48 } : Room) (va_Pc [.ref q_t, .int a1] (pcW G [(q_t, .inr (9, [.ref q_t_z, .ref q_t_old, .ref q_t_past, .int t_states, .ref q_t_kept, .int t_isKept, .ref q_t_text, .int t_length, .ref q_t_order, .ref q_t_told, .int t_spot, .int t_toldRows, .ref q_t_rowsTaken, .ref q_t_columnsTaken, .ref q_t_ways, .ref q_t_scaled, .ref q_t_rowFactors, .ref q_t_columnFactors, .ref q_t_rest, .ref q_t_diagonals, .ref q_t_weights])), (q_t_z, .inl (G.2 0, 50, .inl t_z)), (q_t_order, .inl (G.2 0, 7, .inl t_order))] sz)) (va_Qi (fun r9 (_ : Unit) => r9 = r) (fun _ t => atW G (va_A [(q_t, .inr (9, [.ref q_t_z, .ref q_t_old, .ref q_t_past, .int t_states, .ref q_t_kept, .int t_isKept, .ref q_t_text, .int t_length, .ref q_t_order, .ref q_t_told, .int t_spot, .int t_toldRows, .ref q_t_rowsTaken, .ref q_t_columnsTaken, .ref q_t_ways, .ref q_t_scaled, .ref q_t_rowFactors, .ref q_t_columnFactors, .ref q_t_rest, .ref q_t_diagonals, .ref q_t_weights])), (q_t_z, .inl (G.2 0, 50, .inl t_z)), (q_t_order, .inl (G.2 0, 7, .inl t_order))] sz) [(q_t, .inr (9, [.ref q_t_z, .ref q_t_old, .ref q_t_past, .int t_states, .ref q_t_kept, .int t_isKept, .ref q_t_text, .int t_length, .ref q_t_order, .ref q_t_told, .int t_spot, .int t_toldRows, .ref q_t_rowsTaken, .ref q_t_columnsTaken, .ref q_t_ways, .ref q_t_scaled, .ref q_t_rowFactors, .ref q_t_columnFactors, .ref q_t_rest, .ref q_t_diagonals, .ref q_t_weights])), (q_t_z, .inl (G.2 0, 50, .inl t_z)), (q_t_order, .inl (G.2 0, 7, .inl o_t_order))] t) (va_A [(q_t, .inr (9, [.ref q_t_z, .ref q_t_old, .ref q_t_past, .int t_states, .ref q_t_kept, .int t_isKept, .ref q_t_text, .int t_length, .ref q_t_order, .ref q_t_told, .int t_spot, .int t_toldRows, .ref q_t_rowsTaken, .ref q_t_columnsTaken, .ref q_t_ways, .ref q_t_scaled, .ref q_t_rowFactors, .ref q_t_columnFactors, .ref q_t_rest, .ref q_t_diagonals, .ref q_t_weights])), (q_t_z, .inl (G.2 0, 50, .inl t_z)), (q_t_order, .inl (G.2 0, 7, .inl t_order))] sz)) 0 0 (va_A [(q_t, .inr (9, [.ref q_t_z, .ref q_t_old, .ref q_t_past, .int t_states, .ref q_t_kept, .int t_isKept, .ref q_t_text, .int t_length, .ref q_t_order, .ref q_t_told, .int t_spot, .int t_toldRows, .ref q_t_rowsTaken, .ref q_t_columnsTaken, .ref q_t_ways, .ref q_t_scaled, .ref q_t_rowFactors, .ref q_t_columnFactors, .ref q_t_rest, .ref q_t_diagonals, .ref q_t_weights])), (q_t_z, .inl (G.2 0, 50, .inl t_z)), (q_t_order, .inl (G.2 0, 7, .inl t_order))] sz) := by
  refine Met.ofW (cc := cX10_best) (maxL := 7) (ret := (some .int)) (by decide) rfl ?_
  intro p e s m args below meth c s₁ B hml hv
  obtain ⟨rfl, hsz, hP, hK, hD0⟩ := hv
  subst hsz
  have hD := hD0.self (sz := s.heap.size)
  generalize hAe : va_A [(q_t, .inr (9, [.ref q_t_z, .ref q_t_old, .ref q_t_past, .int t_states, .ref q_t_kept, .int t_isKept, .ref q_t_text, .int t_length, .ref q_t_order, .ref q_t_told, .int t_spot, .int t_toldRows, .ref q_t_rowsTaken, .ref q_t_columnsTaken, .ref q_t_ways, .ref q_t_scaled, .ref q_t_rowFactors, .ref q_t_columnFactors, .ref q_t_rest, .ref q_t_diagonals, .ref q_t_weights])), (q_t_z, .inl (G.2 0, 50, .inl t_z)), (q_t_order, .inl (G.2 0, 7, .inl t_order))] s.heap.size = A at hD ⊢
  have hA : ∀ q : Nat, s.heap.size ≤ q → A q := fun q h => by rw [← hAe]; exact Or.inr h
  have hl := lv_entry ([.ref q_t, .int a1]) (n := 7) (Nat.le_of_ble_eq_true rfl)
  rw [lg_entry_eq]
  refine k_X10_best ⟨B.exec, B.bytes, hml, findClass_of_methodNamed B.named, atoms_spec (ws := wsX10_best) B.pre⟩ G hK hA q_t q_t_z q_t_old q_t_past q_t_kept q_t_text q_t_order q_t_told q_t_rowsTaken q_t_columnsTaken q_t_ways q_t_scaled q_t_rowFactors q_t_columnFactors q_t_rest q_t_diagonals q_t_weights _ _ _ _ _ _ _ _ _ _ h ?_ _ _ _ hP hD va_S.rf hl
  intro H locs ls pc hd hP hD hS
  exact W.iret B.exec B.bytes B.returns (fun t ht hW => ⟨⟨r, (), rfl, rfl, by rw [ht]; exact hP, hD⟩, hS.F ht⟩) hS.2.2 hd B.notSynchronized
set_option maxRecDepth 20000 in
theorem wd_X10_nodes_1 : Cond.fieldLink RX10 37 "PermanentDeskModel" "ways" "[I" ∈ wsX10_nodes := List.mem_of_getElem? (i := 1) (by decide +kernel)
set_option maxRecDepth 20000 in
theorem wi_X10_nodes_X10 : ∀ w ∈ u_ws RX10 TX10 21, w ∈ wsX10_nodes := by decide +kernel
set_option maxRecDepth 20000 in
theorem wd_X10_nodes_2 : Cond.fieldLink RX10 7 "PermanentDeskModel" "z" "[I" ∈ wsX10_nodes := List.mem_of_getElem? (i := 2) (by decide +kernel)
def f_X10_nodes_L2 (x3 : Int32) (x4 : Int32) (t_z : Nat → Int32) : (Int32 × (Nat → Int32)) → Option ((Int32 × (Nat → Int32)) ⊕ (Nat → Int32))
  | (x5, t_ways) =>
    gd (okI (49 : Int32) 50) (
    if (t_z (49 : Int32).toNatClampNeg) ≤ x5 then
      some (.inr t_ways)
    else
      if x4 < 0 then
        some (.inr t_ways)
      else
        gd (okI x3 128) (
        if ((x3 >>> (x5 &&& 31)) &&& (1 : Int32)) = (1 : Int32) then
          (f_X10_at t_z x4 x5).bind (fun r_19 =>
          if r_19 = 0 then
            gd (okI x3 128) (
            pl ((upd t_ways x3.toNatClampNeg ((t_ways x3.toNatClampNeg) + (0 : Int32))) : Nat → Int32) (fun t_ways_23 =>
            pl ((x5 + (1 : Int32)) : Int32) (fun x5_24 =>
            some (.inl (x5_24, t_ways_23)))))
          else
            gd (okI (x3 - ((1 : Int32) <<< (x5 &&& 31))) 128) (
            gd (okI x3 128) (
            pl ((upd t_ways x3.toNatClampNeg ((t_ways x3.toNatClampNeg) + (t_ways (x3 - ((1 : Int32) <<< (x5 &&& 31))).toNatClampNeg))) : Nat → Int32) (fun t_ways_27 =>
            pl ((x5 + (1 : Int32)) : Int32) (fun x5_28 =>
            some (.inl (x5_28, t_ways_27)))))))
        else
          gd (okI x3 128) (
          pl ((upd t_ways x3.toNatClampNeg ((t_ways x3.toNatClampNeg) + (0 : Int32))) : Nat → Int32) (fun t_ways_17 =>
          pl ((x5 + (1 : Int32)) : Int32) (fun x5_18 =>
          some (.inl (x5_18, t_ways_17)))))))
def f_X10_nodes_L1 (x1 : Int32) (t_z : Nat → Int32) : (Int32 × Int32 × (Nat → Int32)) → Option ((Int32 × Int32 × (Nat → Int32)) ⊕ (Int32 × (Nat → Int32)))
  | (x2, x3, t_ways) =>
    (f_X10_all t_z).bind (fun r_1 =>
    if r_1 < x3 then
      some (.inr (x2, t_ways))
    else
      Option.bind (
        if x3 = 0 then
          some (1 : Int32)
        else
          some (0 : Int32)) (fun y_5 =>
      gd (okI x3 128) (
      pl ((upd t_ways x3.toNatClampNeg y_5) : Nat → Int32) (fun t_ways_7 =>
      (f_X10_bits x3).bind (fun r_8 =>
      pl ((r_8 - (1 : Int32)) : Int32) (fun x4_10 =>
      (lpN (f_X10_nodes_L2 x3 x4_10 t_z) FU ((0 : Int32), t_ways_7)).bind (fun t_ways_29 =>
      if x1 = 0 then
        gd (okI x3 128) (
        pl ((x2 + (t_ways_29 x3.toNatClampNeg)) : Int32) (fun x2_34 =>
        pl ((x3 + (1 : Int32)) : Int32) (fun x3_35 =>
        some (.inl (x2_34, x3_35, t_ways_29)))))
      else
        gd (okI x3 128) (
        if (t_ways_29 x3.toNatClampNeg) ≤ 0 then
          pl ((x2 + (0 : Int32)) : Int32) (fun x2_38 =>
          pl ((x3 + (1 : Int32)) : Int32) (fun x3_39 =>
          some (.inl (x2_38, x3_39, t_ways_29))))
        else
          pl ((x2 + (1 : Int32)) : Int32) (fun x2_40 =>
          pl ((x3 + (1 : Int32)) : Int32) (fun x3_41 =>
          some (.inl (x2_40, x3_41, t_ways_29))))))))))))
def f_X10_nodes (t_z : Nat → Int32) (t_ways : Nat → Int32) (a1 : Int32) : Option (Int32 × (Nat → Int32)) :=
  (lpN (f_X10_nodes_L1 a1 t_z) FU ((0 : Int32), (0 : Int32), t_ways)).bind (fun (x2_42, t_ways_43) =>
  some (x2_42, t_ways_43))
set_option maxHeartbeats 4000000 in
set_option maxRecDepth 100000 in
theorem l_X10_nodes_2 {p : Program} {l : Launch} {e : Env} {s : State} {m : MethodId} {args : Array Value} {below : List Frame} {meth : Method} {c : Code} {Q : State → Prop} {A0 : Nat → Prop} {H0 : Heap} (C : CallFix p m c cX10_nodes 6 s args wsX10_nodes RX10) (G : GT) (hK : gK G s) (hA : ∀ q : Nat, H0.size ≤ q → A0 q) (q_t q_t_z q_t_old q_t_past q_t_kept q_t_text q_t_order q_t_told q_t_rowsTaken q_t_columnsTaken q_t_ways q_t_scaled q_t_rowFactors q_t_columnFactors q_t_rest q_t_diagonals q_t_weights : Nat) (x1 : Int32) (x2 : Int32) (x3 : Int32) (x4 : Int32) (t_states : Int32) (t_isKept : Int32) (t_length : Int32) (t_spot : Int32) (t_toldRows : Int32) (t_z : Nat → Int32) (E_t_ways : Nat → Int32) (K : ∀ (H : Heap) (locs : List Loc) (ls : Array Slot), va_P G.1 vwCl [(q_t, .inr (9, [.ref q_t_z, .ref q_t_old, .ref q_t_past, .int t_states, .ref q_t_kept, .int t_isKept, .ref q_t_text, .int t_length, .ref q_t_order, .ref q_t_told, .int t_spot, .int t_toldRows, .ref q_t_rowsTaken, .ref q_t_columnsTaken, .ref q_t_ways, .ref q_t_scaled, .ref q_t_rowFactors, .ref q_t_columnFactors, .ref q_t_rest, .ref q_t_diagonals, .ref q_t_weights])), (q_t_z, .inl (G.2 0, 50, .inl t_z)), (q_t_ways, .inl (G.2 0, 128, .inl E_t_ways))] H → va_D A0 [(q_t, .inr (9, [.ref q_t_z, .ref q_t_old, .ref q_t_past, .int t_states, .ref q_t_kept, .int t_isKept, .ref q_t_text, .int t_length, .ref q_t_order, .ref q_t_told, .int t_spot, .int t_toldRows, .ref q_t_rowsTaken, .ref q_t_columnsTaken, .ref q_t_ways, .ref q_t_scaled, .ref q_t_rowFactors, .ref q_t_columnFactors, .ref q_t_rest, .ref q_t_diagonals, .ref q_t_weights])), (q_t_z, .inl (G.2 0, 50, .inl t_z)), (q_t_ways, .inl (G.2 0, 128, .inl E_t_ways))] → va_S A0 H0 H locs → lv_has ls 6 [(0, .ref q_t), (1, .int x1), (2, .int x2), (3, .int x3)] → W p l e ({ frames := 1, cells := 0, slots := 0, locals := 22 } : Room) s m args below meth c H locs 0 0 Q (F0 m 106 ls [])) : ∀ (n : Nat) (x5 : Int32) (t_ways : Nat → Int32), lpN (f_X10_nodes_L2 x3 x4 t_z) n (x5, t_ways) = some E_t_ways → ∀ (H : Heap) (locs : List Loc) (ls : Array Slot), va_P G.1 vwCl [(q_t, .inr (9, [.ref q_t_z, .ref q_t_old, .ref q_t_past, .int t_states, .ref q_t_kept, .int t_isKept, .ref q_t_text, .int t_length, .ref q_t_order, .ref q_t_told, .int t_spot, .int t_toldRows, .ref q_t_rowsTaken, .ref q_t_columnsTaken, .ref q_t_ways, .ref q_t_scaled, .ref q_t_rowFactors, .ref q_t_columnFactors, .ref q_t_rest, .ref q_t_diagonals, .ref q_t_weights])), (q_t_z, .inl (G.2 0, 50, .inl t_z)), (q_t_ways, .inl (G.2 0, 128, .inl t_ways))] H → va_D A0 [(q_t, .inr (9, [.ref q_t_z, .ref q_t_old, .ref q_t_past, .int t_states, .ref q_t_kept, .int t_isKept, .ref q_t_text, .int t_length, .ref q_t_order, .ref q_t_told, .int t_spot, .int t_toldRows, .ref q_t_rowsTaken, .ref q_t_columnsTaken, .ref q_t_ways, .ref q_t_scaled, .ref q_t_rowFactors, .ref q_t_columnFactors, .ref q_t_rest, .ref q_t_diagonals, .ref q_t_weights])), (q_t_z, .inl (G.2 0, 50, .inl t_z)), (q_t_ways, .inl (G.2 0, 128, .inl t_ways))] → va_S A0 H0 H locs → lv_has ls 6 [(0, .ref q_t), (1, .int x1), (2, .int x2), (3, .int x3), (4, .int x4), (5, .int x5)] → W p l e ({ frames := 1, cells := 0, slots := 0, locals := 22 } : Room) s m args below meth c H locs 0 0 Q (F0 m 38 ls []) := by
  obtain ⟨hx, hb, hml, hown, hts⟩ := C
  intro n
  induction n with
  | zero => intro x5 t_ways h; exact absurd h (fun h => lp_0 h)
  | succ n ih =>
    intro x5 t_ways h H locs ls hP hD hS hl
    obtain ⟨y, h, hk⟩ := lp_s h
    rw [f_X10_nodes_L2] at h
    refine lv_iload hx hb dX10_nodes_38 (lv_at hl 5 rfl) ?_
    refine lv_aload_n hx hb dX10_nodes_40 rfl (lv_at hl 0 rfl) ?_
    refine va_get (D := G.1) (ci := 9) (v := .ref q_t_z) (C := RX10) (T := TX10) (N := 21) hx hb hts wi_X10_nodes_X10 hown hK hP 0 rfl rfl 0 (by decide) (hts _ wd_X10_nodes_2) (fun _ h9 => h9) rfl dX10_nodes_41 ?_
    refine lv_bipush (v := 49) hx hb dX10_nodes_44 (by decide) ?_
    obtain ⟨g_11, h⟩ := gd_ok h
    refine va_iald (D := G.1) hx hb hK hP 1 0 rfl rfl g_11 dX10_nodes_46 ?_
    refine lv_icmp_ge (tgt := 106) hx hb dX10_nodes_47 (by decide) (fun c_12 => ?_) (fun c_12 => ?_)
    · replace h := it_t h c_12
      obtain rfl := sm1 h
      obtain rfl := sm1 hk
      exact K H locs ls hP hD hS (lv_sub hl [0, 1, 2, 3] rfl)
    · replace h := it_f h c_12
      refine lv_iload hx hb dX10_nodes_50 (lv_at hl 4 rfl) ?_
      refine lv_if_lt (tgt := 106) hx hb dX10_nodes_52 (by decide) (fun c_13 => ?_) (fun c_13 => ?_)
      · replace h := it_t h c_13
        obtain rfl := sm1 h
        obtain rfl := sm1 hk
        exact K H locs ls hP hD hS (lv_sub hl [0, 1, 2, 3] rfl)
      · replace h := it_f h c_13
        refine lv_aload_n hx hb dX10_nodes_55 rfl (lv_at hl 0 rfl) ?_
        refine va_get (D := G.1) (ci := 9) (v := .ref q_t_ways) (C := RX10) (T := TX10) (N := 21) hx hb hts wi_X10_nodes_X10 hown hK hP 0 rfl rfl 14 (by decide) (hts _ wd_X10_nodes_1) (fun _ h9 => h9) rfl dX10_nodes_56 ?_
        refine lv_iload_n hx hb dX10_nodes_59 rfl (lv_at hl 3 rfl) ?_
        refine lv_dup2_11 hx hb dX10_nodes_60 rfl rfl ?_
        obtain ⟨g_14, h⟩ := gd_ok h
        refine va_iald (D := G.1) hx hb hK hP 2 0 rfl rfl g_14 dX10_nodes_61 ?_
        refine lv_iload_n hx hb dX10_nodes_62 rfl (lv_at hl 3 rfl) ?_
        refine lv_iload hx hb dX10_nodes_63 (lv_at hl 5 rfl) ?_
        refine lv_ishr hx hb dX10_nodes_65 ?_
        refine lv_iconst (v := 1) hx hb dX10_nodes_66 (by decide) ?_
        refine lv_iand hx hb dX10_nodes_67 ?_
        refine lv_iconst (v := 1) hx hb dX10_nodes_68 (by decide) ?_
        refine lv_icmp_ne (tgt := 97) hx hb dX10_nodes_69 (by decide) (fun c_15 => ?_) (fun c_15 => ?_)
        · replace h := it_f h c_15
          refine lv_iconst (v := 0) hx hb dX10_nodes_97 (by decide) ?_
          refine lv_iadd hx hb dX10_nodes_98 ?_
          obtain ⟨g_16, h⟩ := gd_ok h
          obtain ⟨t_ways_17, et_ways_17, h⟩ := pl_ok h
          refine st_i (D := G.1) (wn := [(q_t, .inr (9, [.ref q_t_z, .ref q_t_old, .ref q_t_past, .int t_states, .ref q_t_kept, .int t_isKept, .ref q_t_text, .int t_length, .ref q_t_order, .ref q_t_told, .int t_spot, .int t_toldRows, .ref q_t_rowsTaken, .ref q_t_columnsTaken, .ref q_t_ways, .ref q_t_scaled, .ref q_t_rowFactors, .ref q_t_columnFactors, .ref q_t_rest, .ref q_t_diagonals, .ref q_t_weights])), (q_t_z, .inl (G.2 0, 50, .inl t_z)), (q_t_ways, .inl (G.2 0, 128, .inl t_ways_17))]) hx hb hK hP hD hS 2 0 rfl rfl g_16 dX10_nodes_99 et_ways_17 rfl (fun H locs hP hD hS => ?_)
          obtain ⟨x5_18, ex5_18, h⟩ := pl_ok h
          refine lv_iinc (v := x5_18) (lv' := [(5, .int x5_18), (0, .ref q_t), (1, .int x1), (2, .int x2), (3, .int x3), (4, .int x4)]) hx hb dX10_nodes_100 hl (k := 5) rfl (by rw [ex5_18]; rfl) (by decide) rfl (fun ls hl => ?_)
          refine lv_goto (tgt := 38) hx hb dX10_nodes_103 (by decide) ?_
          obtain rfl := sm1 h
          exact ih x5_18 t_ways_17 hk H locs ls hP hD hS (lv_sub hl [1, 2, 3, 4, 5, 0] rfl)
        · replace h := it_t h c_15
          refine lv_aload_n hx hb dX10_nodes_72 rfl (lv_at hl 0 rfl) ?_
          refine lv_iload hx hb dX10_nodes_73 (lv_at hl 4 rfl) ?_
          refine lv_iload hx hb dX10_nodes_75 (lv_at hl 5 rfl) ?_
          obtain ⟨r_19, hf_20, h⟩ := bd_ok h
          refine ck_Vi (rest := [.int (t_ways x3.toNatClampNeg), .int x3, .ref q_t_ways]) (wn := [(q_t, .inr (9, [.ref q_t_z, .ref q_t_old, .ref q_t_past, .int t_states, .ref q_t_kept, .int t_isKept, .ref q_t_text, .int t_length, .ref q_t_order, .ref q_t_told, .int t_spot, .int t_toldRows, .ref q_t_rowsTaken, .ref q_t_columnsTaken, .ref q_t_ways, .ref q_t_scaled, .ref q_t_rowFactors, .ref q_t_columnFactors, .ref q_t_rest, .ref q_t_diagonals, .ref q_t_weights])), (q_t_z, .inl (G.2 0, 50, .inl t_z)), (q_t_ways, .inl (G.2 0, 128, .inl t_ways))]) ⟨hx, hb, hml, hown, hts⟩ hK hP hD hS hA [0, 1] [2] [1, 2, 0] (c_X10_at l G q_t q_t_z q_t_old q_t_past q_t_kept q_t_text q_t_order q_t_told q_t_rowsTaken q_t_columnsTaken q_t_ways q_t_scaled q_t_rowFactors q_t_columnFactors q_t_rest q_t_diagonals q_t_weights _ t_states t_isKept t_length t_spot t_toldRows t_z x4 x5 _ hf_20) (cwV 2 hts gX10_nodes_X10_at rfl rfl rfl (by decide +kernel) ⟨Nat.le_of_ble_eq_true rfl, Nat.le_of_ble_eq_true rfl⟩) rfl rfl rfl rfl rfl rfl (by decide) rfl rfl rfl hl.1 rfl (Nat.le_of_ble_eq_true rfl) dX10_nodes_77 ⟨Nat.zero_le _, Nat.zero_le _⟩ (fun H locs hP hD hS => ?_)
          refine lv_if_eq (tgt := 97) hx hb dX10_nodes_80 (by decide) (fun c_21 => ?_) (fun c_21 => ?_)
          · replace h := it_t h c_21
            refine lv_iconst (v := 0) hx hb dX10_nodes_97 (by decide) ?_
            refine lv_iadd hx hb dX10_nodes_98 ?_
            obtain ⟨g_22, h⟩ := gd_ok h
            obtain ⟨t_ways_23, et_ways_23, h⟩ := pl_ok h
            refine st_i (D := G.1) (wn := [(q_t, .inr (9, [.ref q_t_z, .ref q_t_old, .ref q_t_past, .int t_states, .ref q_t_kept, .int t_isKept, .ref q_t_text, .int t_length, .ref q_t_order, .ref q_t_told, .int t_spot, .int t_toldRows, .ref q_t_rowsTaken, .ref q_t_columnsTaken, .ref q_t_ways, .ref q_t_scaled, .ref q_t_rowFactors, .ref q_t_columnFactors, .ref q_t_rest, .ref q_t_diagonals, .ref q_t_weights])), (q_t_z, .inl (G.2 0, 50, .inl t_z)), (q_t_ways, .inl (G.2 0, 128, .inl t_ways_23))]) hx hb hK hP hD hS 2 0 rfl rfl g_22 dX10_nodes_99 et_ways_23 rfl (fun H locs hP hD hS => ?_)
            obtain ⟨x5_24, ex5_24, h⟩ := pl_ok h
            refine lv_iinc (v := x5_24) (lv' := [(5, .int x5_24), (0, .ref q_t), (1, .int x1), (2, .int x2), (3, .int x3), (4, .int x4)]) hx hb dX10_nodes_100 hl (k := 5) rfl (by rw [ex5_24]; rfl) (by decide) rfl (fun ls hl => ?_)
            refine lv_goto (tgt := 38) hx hb dX10_nodes_103 (by decide) ?_
            obtain rfl := sm1 h
            exact ih x5_24 t_ways_23 hk H locs ls hP hD hS (lv_sub hl [1, 2, 3, 4, 5, 0] rfl)
          · replace h := it_f h c_21
            refine lv_aload_n hx hb dX10_nodes_83 rfl (lv_at hl 0 rfl) ?_
            refine va_get (D := G.1) (ci := 9) (v := .ref q_t_ways) (C := RX10) (T := TX10) (N := 21) hx hb hts wi_X10_nodes_X10 hown hK hP 0 rfl rfl 14 (by decide) (hts _ wd_X10_nodes_1) (fun _ h9 => h9) rfl dX10_nodes_84 ?_
            refine lv_iload_n hx hb dX10_nodes_87 rfl (lv_at hl 3 rfl) ?_
            refine lv_iconst (v := 1) hx hb dX10_nodes_88 (by decide) ?_
            refine lv_iload hx hb dX10_nodes_89 (lv_at hl 5 rfl) ?_
            refine lv_ishl hx hb dX10_nodes_91 ?_
            refine lv_isub hx hb dX10_nodes_92 ?_
            obtain ⟨g_25, h⟩ := gd_ok h
            refine va_iald (D := G.1) hx hb hK hP 2 0 rfl rfl g_25 dX10_nodes_93 ?_
            refine lv_goto (tgt := 98) hx hb dX10_nodes_94 (by decide) ?_
            refine lv_iadd hx hb dX10_nodes_98 ?_
            obtain ⟨g_26, h⟩ := gd_ok h
            obtain ⟨t_ways_27, et_ways_27, h⟩ := pl_ok h
            refine st_i (D := G.1) (wn := [(q_t, .inr (9, [.ref q_t_z, .ref q_t_old, .ref q_t_past, .int t_states, .ref q_t_kept, .int t_isKept, .ref q_t_text, .int t_length, .ref q_t_order, .ref q_t_told, .int t_spot, .int t_toldRows, .ref q_t_rowsTaken, .ref q_t_columnsTaken, .ref q_t_ways, .ref q_t_scaled, .ref q_t_rowFactors, .ref q_t_columnFactors, .ref q_t_rest, .ref q_t_diagonals, .ref q_t_weights])), (q_t_z, .inl (G.2 0, 50, .inl t_z)), (q_t_ways, .inl (G.2 0, 128, .inl t_ways_27))]) hx hb hK hP hD hS 2 0 rfl rfl g_26 dX10_nodes_99 et_ways_27 rfl (fun H locs hP hD hS => ?_)
            obtain ⟨x5_28, ex5_28, h⟩ := pl_ok h
            refine lv_iinc (v := x5_28) (lv' := [(5, .int x5_28), (0, .ref q_t), (1, .int x1), (2, .int x2), (3, .int x3), (4, .int x4)]) hx hb dX10_nodes_100 hl (k := 5) rfl (by rw [ex5_28]; rfl) (by decide) rfl (fun ls hl => ?_)
            refine lv_goto (tgt := 38) hx hb dX10_nodes_103 (by decide) ?_
            obtain rfl := sm1 h
            exact ih x5_28 t_ways_27 hk H locs ls hP hD hS (lv_sub hl [1, 2, 3, 4, 5, 0] rfl)
set_option maxHeartbeats 4000000 in
set_option maxRecDepth 100000 in
theorem l_X10_nodes_1 {p : Program} {l : Launch} {e : Env} {s : State} {m : MethodId} {args : Array Value} {below : List Frame} {meth : Method} {c : Code} {Q : State → Prop} {A0 : Nat → Prop} {H0 : Heap} (C : CallFix p m c cX10_nodes 6 s args wsX10_nodes RX10) (G : GT) (hK : gK G s) (hA : ∀ q : Nat, H0.size ≤ q → A0 q) (q_t q_t_z q_t_old q_t_past q_t_kept q_t_text q_t_order q_t_told q_t_rowsTaken q_t_columnsTaken q_t_ways q_t_scaled q_t_rowFactors q_t_columnFactors q_t_rest q_t_diagonals q_t_weights : Nat) (x1 : Int32) (t_states : Int32) (t_isKept : Int32) (t_length : Int32) (t_spot : Int32) (t_toldRows : Int32) (t_z : Nat → Int32) (E_x2 : Int32) (E_t_ways : Nat → Int32) (K : ∀ (H : Heap) (locs : List Loc) (ls : Array Slot), va_P G.1 vwCl [(q_t, .inr (9, [.ref q_t_z, .ref q_t_old, .ref q_t_past, .int t_states, .ref q_t_kept, .int t_isKept, .ref q_t_text, .int t_length, .ref q_t_order, .ref q_t_told, .int t_spot, .int t_toldRows, .ref q_t_rowsTaken, .ref q_t_columnsTaken, .ref q_t_ways, .ref q_t_scaled, .ref q_t_rowFactors, .ref q_t_columnFactors, .ref q_t_rest, .ref q_t_diagonals, .ref q_t_weights])), (q_t_z, .inl (G.2 0, 50, .inl t_z)), (q_t_ways, .inl (G.2 0, 128, .inl E_t_ways))] H → va_D A0 [(q_t, .inr (9, [.ref q_t_z, .ref q_t_old, .ref q_t_past, .int t_states, .ref q_t_kept, .int t_isKept, .ref q_t_text, .int t_length, .ref q_t_order, .ref q_t_told, .int t_spot, .int t_toldRows, .ref q_t_rowsTaken, .ref q_t_columnsTaken, .ref q_t_ways, .ref q_t_scaled, .ref q_t_rowFactors, .ref q_t_columnFactors, .ref q_t_rest, .ref q_t_diagonals, .ref q_t_weights])), (q_t_z, .inl (G.2 0, 50, .inl t_z)), (q_t_ways, .inl (G.2 0, 128, .inl E_t_ways))] → va_S A0 H0 H locs → lv_has ls 6 [(2, .int E_x2)] → W p l e ({ frames := 1, cells := 0, slots := 0, locals := 22 } : Room) s m args below meth c H locs 0 0 Q (F0 m 142 ls [])) : ∀ (n : Nat) (x2 : Int32) (x3 : Int32) (t_ways : Nat → Int32), lpN (f_X10_nodes_L1 x1 t_z) n (x2, x3, t_ways) = some (E_x2, E_t_ways) → ∀ (H : Heap) (locs : List Loc) (ls : Array Slot), va_P G.1 vwCl [(q_t, .inr (9, [.ref q_t_z, .ref q_t_old, .ref q_t_past, .int t_states, .ref q_t_kept, .int t_isKept, .ref q_t_text, .int t_length, .ref q_t_order, .ref q_t_told, .int t_spot, .int t_toldRows, .ref q_t_rowsTaken, .ref q_t_columnsTaken, .ref q_t_ways, .ref q_t_scaled, .ref q_t_rowFactors, .ref q_t_columnFactors, .ref q_t_rest, .ref q_t_diagonals, .ref q_t_weights])), (q_t_z, .inl (G.2 0, 50, .inl t_z)), (q_t_ways, .inl (G.2 0, 128, .inl t_ways))] H → va_D A0 [(q_t, .inr (9, [.ref q_t_z, .ref q_t_old, .ref q_t_past, .int t_states, .ref q_t_kept, .int t_isKept, .ref q_t_text, .int t_length, .ref q_t_order, .ref q_t_told, .int t_spot, .int t_toldRows, .ref q_t_rowsTaken, .ref q_t_columnsTaken, .ref q_t_ways, .ref q_t_scaled, .ref q_t_rowFactors, .ref q_t_columnFactors, .ref q_t_rest, .ref q_t_diagonals, .ref q_t_weights])), (q_t_z, .inl (G.2 0, 50, .inl t_z)), (q_t_ways, .inl (G.2 0, 128, .inl t_ways))] → va_S A0 H0 H locs → lv_has ls 6 [(0, .ref q_t), (1, .int x1), (2, .int x2), (3, .int x3)] → W p l e ({ frames := 1, cells := 0, slots := 0, locals := 22 } : Room) s m args below meth c H locs 0 0 Q (F0 m 4 ls []) := by
  obtain ⟨hx, hb, hml, hown, hts⟩ := C
  intro n
  induction n with
  | zero => intro x2 x3 t_ways h; exact absurd h (fun h => lp_0 h)
  | succ n ih =>
    intro x2 x3 t_ways h H locs ls hP hD hS hl
    obtain ⟨y, h, hk⟩ := lp_s h
    rw [f_X10_nodes_L1] at h
    refine lv_iload_n hx hb dX10_nodes_4 rfl (lv_at hl 3 rfl) ?_
    refine lv_aload_n hx hb dX10_nodes_5 rfl (lv_at hl 0 rfl) ?_
    obtain ⟨r_1, hf_2, h⟩ := bd_ok h
    refine ck_Vi (rest := [.int x3]) (wn := [(q_t, .inr (9, [.ref q_t_z, .ref q_t_old, .ref q_t_past, .int t_states, .ref q_t_kept, .int t_isKept, .ref q_t_text, .int t_length, .ref q_t_order, .ref q_t_told, .int t_spot, .int t_toldRows, .ref q_t_rowsTaken, .ref q_t_columnsTaken, .ref q_t_ways, .ref q_t_scaled, .ref q_t_rowFactors, .ref q_t_columnFactors, .ref q_t_rest, .ref q_t_diagonals, .ref q_t_weights])), (q_t_z, .inl (G.2 0, 50, .inl t_z)), (q_t_ways, .inl (G.2 0, 128, .inl t_ways))]) ⟨hx, hb, hml, hown, hts⟩ hK hP hD hS hA [0, 1] [2] [1, 2, 0] (c_X10_all l G q_t q_t_z q_t_old q_t_past q_t_kept q_t_text q_t_order q_t_told q_t_rowsTaken q_t_columnsTaken q_t_ways q_t_scaled q_t_rowFactors q_t_columnFactors q_t_rest q_t_diagonals q_t_weights _ t_states t_isKept t_length t_spot t_toldRows t_z _ hf_2) (cwV 0 hts gX10_nodes_X10_all rfl rfl rfl (by decide +kernel) ⟨Nat.le_of_ble_eq_true rfl, Nat.le_of_ble_eq_true rfl⟩) rfl rfl rfl rfl rfl rfl (by decide) rfl rfl rfl hl.1 rfl (Nat.le_of_ble_eq_true rfl) dX10_nodes_6 ⟨Nat.zero_le _, Nat.zero_le _⟩ (fun H locs hP hD hS => ?_)
    refine lv_icmp_gt (tgt := 142) hx hb dX10_nodes_9 (by decide) (fun c_3 => ?_) (fun c_3 => ?_)
    · replace h := it_t h c_3
      obtain rfl := sm1 h
      obtain ⟨rfl, rfl⟩ := sm2 hk
      exact K H locs ls hP hD hS (lv_sub hl [2] rfl)
    · replace h := it_f h c_3
      refine lv_aload_n hx hb dX10_nodes_12 rfl (lv_at hl 0 rfl) ?_
      refine va_get (D := G.1) (ci := 9) (v := .ref q_t_ways) (C := RX10) (T := TX10) (N := 21) hx hb hts wi_X10_nodes_X10 hown hK hP 0 rfl rfl 14 (by decide) (hts _ wd_X10_nodes_1) (fun _ h9 => h9) rfl dX10_nodes_13 ?_
      refine lv_iload_n hx hb dX10_nodes_16 rfl (lv_at hl 3 rfl) ?_
      refine lv_iload_n hx hb dX10_nodes_17 rfl (lv_at hl 3 rfl) ?_
      obtain ⟨y_5, hr, h⟩ := bd_ok h
      have J : ∀ (H : Heap) (locs : List Loc) (ls : Array Slot), va_P G.1 vwCl [(q_t, .inr (9, [.ref q_t_z, .ref q_t_old, .ref q_t_past, .int t_states, .ref q_t_kept, .int t_isKept, .ref q_t_text, .int t_length, .ref q_t_order, .ref q_t_told, .int t_spot, .int t_toldRows, .ref q_t_rowsTaken, .ref q_t_columnsTaken, .ref q_t_ways, .ref q_t_scaled, .ref q_t_rowFactors, .ref q_t_columnFactors, .ref q_t_rest, .ref q_t_diagonals, .ref q_t_weights])), (q_t_z, .inl (G.2 0, 50, .inl t_z)), (q_t_ways, .inl (G.2 0, 128, .inl t_ways))] H → va_D A0 [(q_t, .inr (9, [.ref q_t_z, .ref q_t_old, .ref q_t_past, .int t_states, .ref q_t_kept, .int t_isKept, .ref q_t_text, .int t_length, .ref q_t_order, .ref q_t_told, .int t_spot, .int t_toldRows, .ref q_t_rowsTaken, .ref q_t_columnsTaken, .ref q_t_ways, .ref q_t_scaled, .ref q_t_rowFactors, .ref q_t_columnFactors, .ref q_t_rest, .ref q_t_diagonals, .ref q_t_weights])), (q_t_z, .inl (G.2 0, 50, .inl t_z)), (q_t_ways, .inl (G.2 0, 128, .inl t_ways))] → va_S A0 H0 H locs → lv_has ls 6 [(0, .ref q_t), (1, .int x1), (2, .int x2), (3, .int x3)] → W p l e ({ frames := 1, cells := 0, slots := 0, locals := 22 } : Room) s m args below meth c H locs 0 0 Q (F0 m 26 ls [.int y_5, .int x3, .ref q_t_ways]) := by
        intro H locs ls hP hD hS hl
        obtain ⟨g_6, h⟩ := gd_ok h
        obtain ⟨t_ways_7, et_ways_7, h⟩ := pl_ok h
        refine st_i (D := G.1) (wn := [(q_t, .inr (9, [.ref q_t_z, .ref q_t_old, .ref q_t_past, .int t_states, .ref q_t_kept, .int t_isKept, .ref q_t_text, .int t_length, .ref q_t_order, .ref q_t_told, .int t_spot, .int t_toldRows, .ref q_t_rowsTaken, .ref q_t_columnsTaken, .ref q_t_ways, .ref q_t_scaled, .ref q_t_rowFactors, .ref q_t_columnFactors, .ref q_t_rest, .ref q_t_diagonals, .ref q_t_weights])), (q_t_z, .inl (G.2 0, 50, .inl t_z)), (q_t_ways, .inl (G.2 0, 128, .inl t_ways_7))]) hx hb hK hP hD hS 2 0 rfl rfl g_6 dX10_nodes_26 et_ways_7 rfl (fun H locs hP hD hS => ?_)
        refine lv_iload_n hx hb dX10_nodes_27 rfl (lv_at hl 3 rfl) ?_
        obtain ⟨r_8, hf_9, h⟩ := bd_ok h
        refine ck_Si (rest := []) (wn := [(q_t, .inr (9, [.ref q_t_z, .ref q_t_old, .ref q_t_past, .int t_states, .ref q_t_kept, .int t_isKept, .ref q_t_text, .int t_length, .ref q_t_order, .ref q_t_told, .int t_spot, .int t_toldRows, .ref q_t_rowsTaken, .ref q_t_columnsTaken, .ref q_t_ways, .ref q_t_scaled, .ref q_t_rowFactors, .ref q_t_columnFactors, .ref q_t_rest, .ref q_t_diagonals, .ref q_t_weights])), (q_t_z, .inl (G.2 0, 50, .inl t_z)), (q_t_ways, .inl (G.2 0, 128, .inl t_ways_7))]) ⟨hx, hb, hml, hown, hts⟩ hK hP hD hS hA [] [0, 1, 2] [0, 1, 2] (c_X10_bits l G _ x3 _ hf_9) (cwS 1 hts gX10_nodes_X10_bits rfl rfl rfl (by decide +kernel) ⟨Nat.le_of_ble_eq_true rfl, Nat.le_of_ble_eq_true rfl⟩) rfl rfl rfl rfl (by decide) rfl rfl rfl hl.1 rfl (Nat.le_of_ble_eq_true rfl) dX10_nodes_28 ⟨Nat.zero_le _, Nat.zero_le _⟩ (fun H locs hP hD hS => ?_)
        refine lv_iconst (v := 1) hx hb dX10_nodes_31 (by decide) ?_
        refine lv_isub hx hb dX10_nodes_32 ?_
        refine lv_topi (fun x4_10 ex4_10 => ?_)
        replace h := pl_v h ex4_10
        refine lv_istore (lv' := [(4, .int x4_10), (0, .ref q_t), (1, .int x1), (2, .int x2), (3, .int x3)]) hx hb dX10_nodes_33 hl (by decide) rfl (fun ls hl => ?_)
        refine lv_iconst (v := 0) hx hb dX10_nodes_35 (by decide) ?_
        refine lv_istore (lv' := [(5, .int (0 : Int32)), (4, .int x4_10), (0, .ref q_t), (1, .int x1), (2, .int x2), (3, .int x3)]) hx hb dX10_nodes_36 hl (by decide) rfl (fun ls hl => ?_)
        obtain ⟨t_ways_29, hz_31, h⟩ := bd_ok h
        refine l_X10_nodes_2 ⟨hx, hb, hml, hown, hts⟩ G hK hA q_t q_t_z q_t_old q_t_past q_t_kept q_t_text q_t_order q_t_told q_t_rowsTaken q_t_columnsTaken q_t_ways q_t_scaled q_t_rowFactors q_t_columnFactors q_t_rest q_t_diagonals q_t_weights x1 x2 x3 x4_10 t_states t_isKept t_length t_spot t_toldRows t_z t_ways_29 ?_ FU (0 : Int32) t_ways_7 hz_31 H locs ls hP hD hS (lv_sub hl [2, 3, 4, 5, 1, 0] rfl)
        intro H locs ls hP hD hS hl
        refine lv_iload_n hx hb dX10_nodes_106 rfl (lv_at hl 2 rfl) ?_
        refine lv_iload_n hx hb dX10_nodes_107 rfl (lv_at hl 1 rfl) ?_
        refine lv_if_eq (tgt := 128) hx hb dX10_nodes_108 (by decide) (fun c_32 => ?_) (fun c_32 => ?_)
        · replace h := it_t h c_32
          refine lv_aload_n hx hb dX10_nodes_128 rfl (lv_at hl 0 rfl) ?_
          refine va_get (D := G.1) (ci := 9) (v := .ref q_t_ways) (C := RX10) (T := TX10) (N := 21) hx hb hts wi_X10_nodes_X10 hown hK hP 0 rfl rfl 14 (by decide) (hts _ wd_X10_nodes_1) (fun _ h9 => h9) rfl dX10_nodes_129 ?_
          refine lv_iload_n hx hb dX10_nodes_132 rfl (lv_at hl 3 rfl) ?_
          obtain ⟨g_33, h⟩ := gd_ok h
          refine va_iald (D := G.1) hx hb hK hP 2 0 rfl rfl g_33 dX10_nodes_133 ?_
          refine lv_iadd hx hb dX10_nodes_134 ?_
          refine lv_topi (fun x2_34 ex2_34 => ?_)
          replace h := pl_v h ex2_34
          refine lv_istore_n (lv' := [(2, .int x2_34), (0, .ref q_t), (1, .int x1), (3, .int x3)]) hx hb dX10_nodes_135 rfl hl (by decide) rfl (fun ls hl => ?_)
          obtain ⟨x3_35, ex3_35, h⟩ := pl_ok h
          refine lv_iinc (v := x3_35) (lv' := [(3, .int x3_35), (2, .int x2_34), (0, .ref q_t), (1, .int x1)]) hx hb dX10_nodes_136 hl (k := 3) rfl (by rw [ex3_35]; rfl) (by decide) rfl (fun ls hl => ?_)
          refine lv_goto (tgt := 4) hx hb dX10_nodes_139 (by decide) ?_
          obtain rfl := sm1 h
          exact ih x2_34 x3_35 t_ways_29 hk H locs ls hP hD hS (lv_sub hl [2, 3, 1, 0] rfl)
        · replace h := it_f h c_32
          refine lv_aload_n hx hb dX10_nodes_111 rfl (lv_at hl 0 rfl) ?_
          refine va_get (D := G.1) (ci := 9) (v := .ref q_t_ways) (C := RX10) (T := TX10) (N := 21) hx hb hts wi_X10_nodes_X10 hown hK hP 0 rfl rfl 14 (by decide) (hts _ wd_X10_nodes_1) (fun _ h9 => h9) rfl dX10_nodes_112 ?_
          refine lv_iload_n hx hb dX10_nodes_115 rfl (lv_at hl 3 rfl) ?_
          obtain ⟨g_36, h⟩ := gd_ok h
          refine va_iald (D := G.1) hx hb hK hP 2 0 rfl rfl g_36 dX10_nodes_116 ?_
          refine lv_if_le (tgt := 124) hx hb dX10_nodes_117 (by decide) (fun c_37 => ?_) (fun c_37 => ?_)
          · replace h := it_t h c_37
            refine lv_iconst (v := 0) hx hb dX10_nodes_124 (by decide) ?_
            refine lv_goto (tgt := 134) hx hb dX10_nodes_125 (by decide) ?_
            refine lv_iadd hx hb dX10_nodes_134 ?_
            refine lv_topi (fun x2_38 ex2_38 => ?_)
            replace h := pl_v h ex2_38
            refine lv_istore_n (lv' := [(2, .int x2_38), (0, .ref q_t), (1, .int x1), (3, .int x3)]) hx hb dX10_nodes_135 rfl hl (by decide) rfl (fun ls hl => ?_)
            obtain ⟨x3_39, ex3_39, h⟩ := pl_ok h
            refine lv_iinc (v := x3_39) (lv' := [(3, .int x3_39), (2, .int x2_38), (0, .ref q_t), (1, .int x1)]) hx hb dX10_nodes_136 hl (k := 3) rfl (by rw [ex3_39]; rfl) (by decide) rfl (fun ls hl => ?_)
            refine lv_goto (tgt := 4) hx hb dX10_nodes_139 (by decide) ?_
            obtain rfl := sm1 h
            exact ih x2_38 x3_39 t_ways_29 hk H locs ls hP hD hS (lv_sub hl [2, 3, 1, 0] rfl)
          · replace h := it_f h c_37
            refine lv_iconst (v := 1) hx hb dX10_nodes_120 (by decide) ?_
            refine lv_goto (tgt := 134) hx hb dX10_nodes_121 (by decide) ?_
            refine lv_iadd hx hb dX10_nodes_134 ?_
            refine lv_topi (fun x2_40 ex2_40 => ?_)
            replace h := pl_v h ex2_40
            refine lv_istore_n (lv' := [(2, .int x2_40), (0, .ref q_t), (1, .int x1), (3, .int x3)]) hx hb dX10_nodes_135 rfl hl (by decide) rfl (fun ls hl => ?_)
            obtain ⟨x3_41, ex3_41, h⟩ := pl_ok h
            refine lv_iinc (v := x3_41) (lv' := [(3, .int x3_41), (2, .int x2_40), (0, .ref q_t), (1, .int x1)]) hx hb dX10_nodes_136 hl (k := 3) rfl (by rw [ex3_41]; rfl) (by decide) rfl (fun ls hl => ?_)
            refine lv_goto (tgt := 4) hx hb dX10_nodes_139 (by decide) ?_
            obtain rfl := sm1 h
            exact ih x2_40 x3_41 t_ways_29 hk H locs ls hP hD hS (lv_sub hl [2, 3, 1, 0] rfl)
      replace h := hr
      clear hr
      refine lv_if_ne (tgt := 25) hx hb dX10_nodes_18 (by decide) (fun c_4 => ?_) (fun c_4 => ?_)
      · replace h := it_f h c_4
        refine lv_iconst (v := 0) hx hb dX10_nodes_25 (by decide) ?_
        obtain rfl := sm1 h
        exact J H locs ls hP hD hS (lv_sub hl [0, 1, 2, 3] rfl)
      · replace h := it_t h c_4
        refine lv_iconst (v := 1) hx hb dX10_nodes_21 (by decide) ?_
        refine lv_goto (tgt := 26) hx hb dX10_nodes_22 (by decide) ?_
        obtain rfl := sm1 h
        exact J H locs ls hP hD hS (lv_sub hl [0, 1, 2, 3] rfl)
set_option maxHeartbeats 4000000 in
set_option maxRecDepth 100000 in
theorem k_X10_nodes {p : Program} {l : Launch} {e : Env} {s : State} {m : MethodId} {args : Array Value} {below : List Frame} {meth : Method} {c : Code} {Q : State → Prop} {A0 : Nat → Prop} {H0 : Heap} (C : CallFix p m c cX10_nodes 6 s args wsX10_nodes RX10) (G : GT) (hK : gK G s) (hA : ∀ q : Nat, H0.size ≤ q → A0 q) (q_t q_t_z q_t_old q_t_past q_t_kept q_t_text q_t_order q_t_told q_t_rowsTaken q_t_columnsTaken q_t_ways q_t_scaled q_t_rowFactors q_t_columnFactors q_t_rest q_t_diagonals q_t_weights : Nat) (t_states : Int32) (t_isKept : Int32) (t_length : Int32) (t_spot : Int32) (t_toldRows : Int32) (t_z : Nat → Int32) (t_ways : Nat → Int32) (a1 : Int32) (r : Int32) (o_t_ways : Nat → Int32) (h : f_X10_nodes t_z t_ways a1 = some (r, o_t_ways)) (KR : ∀ (H : Heap) (locs : List Loc) (ls : Array Slot) (pc : Nat), decode cX10_nodes pc = .ok (.ireturn, 1) → va_P G.1 vwCl [(q_t, .inr (9, [.ref q_t_z, .ref q_t_old, .ref q_t_past, .int t_states, .ref q_t_kept, .int t_isKept, .ref q_t_text, .int t_length, .ref q_t_order, .ref q_t_told, .int t_spot, .int t_toldRows, .ref q_t_rowsTaken, .ref q_t_columnsTaken, .ref q_t_ways, .ref q_t_scaled, .ref q_t_rowFactors, .ref q_t_columnFactors, .ref q_t_rest, .ref q_t_diagonals, .ref q_t_weights])), (q_t_z, .inl (G.2 0, 50, .inl t_z)), (q_t_ways, .inl (G.2 0, 128, .inl o_t_ways))] H → va_D A0 [(q_t, .inr (9, [.ref q_t_z, .ref q_t_old, .ref q_t_past, .int t_states, .ref q_t_kept, .int t_isKept, .ref q_t_text, .int t_length, .ref q_t_order, .ref q_t_told, .int t_spot, .int t_toldRows, .ref q_t_rowsTaken, .ref q_t_columnsTaken, .ref q_t_ways, .ref q_t_scaled, .ref q_t_rowFactors, .ref q_t_columnFactors, .ref q_t_rest, .ref q_t_diagonals, .ref q_t_weights])), (q_t_z, .inl (G.2 0, 50, .inl t_z)), (q_t_ways, .inl (G.2 0, 128, .inl o_t_ways))] → va_S A0 H0 H locs → W p l e ({ frames := 1, cells := 0, slots := 0, locals := 22 } : Room) s m args below meth c H locs 0 0 Q (F0 m pc ls [.int r])) : ∀ (H : Heap) (locs : List Loc) (ls : Array Slot), va_P G.1 vwCl [(q_t, .inr (9, [.ref q_t_z, .ref q_t_old, .ref q_t_past, .int t_states, .ref q_t_kept, .int t_isKept, .ref q_t_text, .int t_length, .ref q_t_order, .ref q_t_told, .int t_spot, .int t_toldRows, .ref q_t_rowsTaken, .ref q_t_columnsTaken, .ref q_t_ways, .ref q_t_scaled, .ref q_t_rowFactors, .ref q_t_columnFactors, .ref q_t_rest, .ref q_t_diagonals, .ref q_t_weights])), (q_t_z, .inl (G.2 0, 50, .inl t_z)), (q_t_ways, .inl (G.2 0, 128, .inl t_ways))] H → va_D A0 [(q_t, .inr (9, [.ref q_t_z, .ref q_t_old, .ref q_t_past, .int t_states, .ref q_t_kept, .int t_isKept, .ref q_t_text, .int t_length, .ref q_t_order, .ref q_t_told, .int t_spot, .int t_toldRows, .ref q_t_rowsTaken, .ref q_t_columnsTaken, .ref q_t_ways, .ref q_t_scaled, .ref q_t_rowFactors, .ref q_t_columnFactors, .ref q_t_rest, .ref q_t_diagonals, .ref q_t_weights])), (q_t_z, .inl (G.2 0, 50, .inl t_z)), (q_t_ways, .inl (G.2 0, 128, .inl t_ways))] → va_S A0 H0 H locs → lv_has ls 6 [(0, .ref q_t), (1, .int a1)] → W p l e ({ frames := 1, cells := 0, slots := 0, locals := 22 } : Room) s m args below meth c H locs 0 0 Q (F0 m 0 ls []) := by
  obtain ⟨hx, hb, hml, hown, hts⟩ := C
  intro H locs ls hP hD hS hl
  rw [f_X10_nodes] at h
  refine lv_iconst (v := 0) hx hb dX10_nodes_0 (by decide) ?_
  refine lv_istore_n (lv' := [(2, .int (0 : Int32)), (0, .ref q_t), (1, .int a1)]) hx hb dX10_nodes_1 rfl hl (by decide) rfl (fun ls hl => ?_)
  refine lv_iconst (v := 0) hx hb dX10_nodes_2 (by decide) ?_
  refine lv_istore_n (lv' := [(3, .int (0 : Int32)), (2, .int (0 : Int32)), (0, .ref q_t), (1, .int a1)]) hx hb dX10_nodes_3 rfl hl (by decide) rfl (fun ls hl => ?_)
  obtain ⟨⟨x2_42, t_ways_43⟩, hz_45, h⟩ := bd_ok h
  refine l_X10_nodes_1 ⟨hx, hb, hml, hown, hts⟩ G hK hA q_t q_t_z q_t_old q_t_past q_t_kept q_t_text q_t_order q_t_told q_t_rowsTaken q_t_columnsTaken q_t_ways q_t_scaled q_t_rowFactors q_t_columnFactors q_t_rest q_t_diagonals q_t_weights a1 t_states t_isKept t_length t_spot t_toldRows t_z x2_42 t_ways_43 ?_ FU (0 : Int32) (0 : Int32) t_ways hz_45 H locs ls hP hD hS (lv_sub hl [2, 3, 1, 0] rfl)
  intro H locs ls hP hD hS hl
  refine lv_iload_n hx hb dX10_nodes_142 rfl (lv_at hl 0 rfl) ?_
  obtain ⟨rfl, rfl⟩ := sm2 h
  exact KR H locs ls 143 dX10_nodes_143 hP hD hS
set_option maxHeartbeats 4000000 in
set_option maxRecDepth 100000 in
theorem c_X10_nodes (l : Launch) (G : GT) (q_t q_t_z q_t_old q_t_past q_t_kept q_t_text q_t_order q_t_told q_t_rowsTaken q_t_columnsTaken q_t_ways q_t_scaled q_t_rowFactors q_t_columnFactors q_t_rest q_t_diagonals q_t_weights : Nat) (sz : Nat) (t_states : Int32) (t_isKept : Int32) (t_length : Int32) (t_spot : Int32) (t_toldRows : Int32) (t_z : Nat → Int32) (t_ways : Nat → Int32) (a1 : Int32) (r : Int32) (o_t_ways : Nat → Int32) (h : f_X10_nodes t_z t_ways a1 = some (r, o_t_ways)) : Met l yX10_nodes wsX10_nodes ({ frames := 1, cells := 0, slots := 0, locals := 22 } : Room) (va_Pc [.ref q_t, .int a1] (pcW G [(q_t, .inr (9, [.ref q_t_z, .ref q_t_old, .ref q_t_past, .int t_states, .ref q_t_kept, .int t_isKept, .ref q_t_text, .int t_length, .ref q_t_order, .ref q_t_told, .int t_spot, .int t_toldRows, .ref q_t_rowsTaken, .ref q_t_columnsTaken, .ref q_t_ways, .ref q_t_scaled, .ref q_t_rowFactors, .ref q_t_columnFactors, .ref q_t_rest, .ref q_t_diagonals, .ref q_t_weights])), (q_t_z, .inl (G.2 0, 50, .inl t_z)), (q_t_ways, .inl (G.2 0, 128, .inl t_ways))] sz)) (va_Qi (fun r9 (_ : Unit) => r9 = r) (fun _ t => atW G (va_A [(q_t, .inr (9, [.ref q_t_z, .ref q_t_old, .ref q_t_past, .int t_states, .ref q_t_kept, .int t_isKept, .ref q_t_text, .int t_length, .ref q_t_order, .ref q_t_told, .int t_spot, .int t_toldRows, .ref q_t_rowsTaken, .ref q_t_columnsTaken, .ref q_t_ways, .ref q_t_scaled, .ref q_t_rowFactors, .ref q_t_columnFactors, .ref q_t_rest, .ref q_t_diagonals, .ref q_t_weights])), (q_t_z, .inl (G.2 0, 50, .inl t_z)), (q_t_ways, .inl (G.2 0, 128, .inl t_ways))] sz) [(q_t, .inr (9, [.ref q_t_z, .ref q_t_old, .ref q_t_past, .int t_states, .ref q_t_kept, .int t_isKept, .ref q_t_text, .int t_length, .ref q_t_order, .ref q_t_told, .int t_spot, .int t_toldRows, .ref q_t_rowsTaken, .ref q_t_columnsTaken, .ref q_t_ways, .ref q_t_scaled, .ref q_t_rowFactors, .ref q_t_columnFactors, .ref q_t_rest, .ref q_t_diagonals, .ref q_t_weights])), (q_t_z, .inl (G.2 0, 50, .inl t_z)), (q_t_ways, .inl (G.2 0, 128, .inl o_t_ways))] t) (va_A [(q_t, .inr (9, [.ref q_t_z, .ref q_t_old, .ref q_t_past, .int t_states, .ref q_t_kept, .int t_isKept, .ref q_t_text, .int t_length, .ref q_t_order, .ref q_t_told, .int t_spot, .int t_toldRows, .ref q_t_rowsTaken, .ref q_t_columnsTaken, .ref q_t_ways, .ref q_t_scaled, .ref q_t_rowFactors, .ref q_t_columnFactors, .ref q_t_rest, .ref q_t_diagonals, .ref q_t_weights])), (q_t_z, .inl (G.2 0, 50, .inl t_z)), (q_t_ways, .inl (G.2 0, 128, .inl t_ways))] sz)) 0 0 (va_A [(q_t, .inr (9, [.ref q_t_z, .ref q_t_old, .ref q_t_past, .int t_states, .ref q_t_kept, .int t_isKept, .ref q_t_text, .int t_length, .ref q_t_order, .ref q_t_told, .int t_spot, .int t_toldRows, .ref q_t_rowsTaken, .ref q_t_columnsTaken, .ref q_t_ways, .ref q_t_scaled, .ref q_t_rowFactors, .ref q_t_columnFactors, .ref q_t_rest, .ref q_t_diagonals, .ref q_t_weights])), (q_t_z, .inl (G.2 0, 50, .inl t_z)), (q_t_ways, .inl (G.2 0, 128, .inl t_ways))] sz) := by
  refine Met.ofW (cc := cX10_nodes) (maxL := 6) (ret := (some .int)) (by decide) rfl ?_
  intro p e s m args below meth c s₁ B hml hv
  obtain ⟨rfl, hsz, hP, hK, hD0⟩ := hv
  subst hsz
  have hD := hD0.self (sz := s.heap.size)
  generalize hAe : va_A [(q_t, .inr (9, [.ref q_t_z, .ref q_t_old, .ref q_t_past, .int t_states, .ref q_t_kept, .int t_isKept, .ref q_t_text, .int t_length, .ref q_t_order, .ref q_t_told, .int t_spot, .int t_toldRows, .ref q_t_rowsTaken, .ref q_t_columnsTaken, .ref q_t_ways, .ref q_t_scaled, .ref q_t_rowFactors, .ref q_t_columnFactors, .ref q_t_rest, .ref q_t_diagonals, .ref q_t_weights])), (q_t_z, .inl (G.2 0, 50, .inl t_z)), (q_t_ways, .inl (G.2 0, 128, .inl t_ways))] s.heap.size = A at hD ⊢
  have hA : ∀ q : Nat, s.heap.size ≤ q → A q := fun q h => by rw [← hAe]; exact Or.inr h
  have hl := lv_entry ([.ref q_t, .int a1]) (n := 6) (Nat.le_of_ble_eq_true rfl)
  rw [lg_entry_eq]
  refine k_X10_nodes ⟨B.exec, B.bytes, hml, findClass_of_methodNamed B.named, atoms_spec (ws := wsX10_nodes) B.pre⟩ G hK hA q_t q_t_z q_t_old q_t_past q_t_kept q_t_text q_t_order q_t_told q_t_rowsTaken q_t_columnsTaken q_t_ways q_t_scaled q_t_rowFactors q_t_columnFactors q_t_rest q_t_diagonals q_t_weights _ _ _ _ _ _ _ _ _ _ h ?_ _ _ _ hP hD va_S.rf hl
  intro H locs ls pc hd hP hD hS
  exact W.iret B.exec B.bytes B.returns (fun t ht hW => ⟨⟨r, (), rfl, rfl, by rw [ht]; exact hP, hD⟩, hS.F ht⟩) hS.2.2 hd B.notSynchronized
set_option maxRecDepth 20000 in
theorem wd_X10_canScale_1 : Cond.fieldLink RX10 7 "PermanentDeskModel" "z" "[I" ∈ wsX10_canScale := List.mem_of_getElem? (i := 1) (by decide +kernel)
set_option maxRecDepth 20000 in
theorem wi_X10_canScale_X10 : ∀ w ∈ u_ws RX10 TX10 21, w ∈ wsX10_canScale := by decide +kernel
def f_X10_canScale_L1 (t_z : Nat → Int32) : (Int32 × Int32) → Option ((Int32 × Int32) ⊕ Int32)
  | (x1, x2) =>
    if (49 : Int32) ≤ x2 then
      some (.inr x1)
    else
      if x1 = 0 then
        pl ((x2 + (1 : Int32)) : Int32) (fun x2_3 =>
        some (.inl ((0 : Int32), x2_3)))
      else
        gd (okI x2 50) (
        if (t_z x2.toNatClampNeg) < 0 then
          pl ((x2 + (1 : Int32)) : Int32) (fun x2_6 =>
          some (.inl ((0 : Int32), x2_6)))
        else
          pl ((x2 + (1 : Int32)) : Int32) (fun x2_7 =>
          some (.inl ((1 : Int32), x2_7))))
def f_X10_canScale_L2 (t_z : Nat → Int32) : (Int32 × Int32) → Option ((Int32 × Int32) ⊕ Int32)
  | (x1, x2) =>
    gd (okI (49 : Int32) 50) (
    if (t_z (49 : Int32).toNatClampNeg) ≤ x2 then
      some (.inr x1)
    else
      if x1 = 0 then
        pl ((x2 + (1 : Int32)) : Int32) (fun x2_14 =>
        some (.inl ((0 : Int32), x2_14)))
      else
        (f_X10_sumOfLine t_z x2 (0 : Int32)).bind (fun r_15 =>
        if r_15 ≤ 0 then
          pl ((x2 + (1 : Int32)) : Int32) (fun x2_18 =>
          some (.inl ((0 : Int32), x2_18)))
        else
          (f_X10_sumOfLine t_z x2 (1 : Int32)).bind (fun r_19 =>
          if r_19 ≤ 0 then
            pl ((x2 + (1 : Int32)) : Int32) (fun x2_22 =>
            some (.inl ((0 : Int32), x2_22)))
          else
            pl ((x2 + (1 : Int32)) : Int32) (fun x2_23 =>
            some (.inl ((1 : Int32), x2_23))))))
def f_X10_canScale (t_z : Nat → Int32) : Option Int32 :=
  (lpN (f_X10_canScale_L1 t_z) FU ((1 : Int32), (0 : Int32))).bind (fun x1_8 =>
  (lpN (f_X10_canScale_L2 t_z) FU (x1_8, (0 : Int32))).bind (fun x1_24 =>
  gd (x1_24 = 0 ∨ x1_24 = 1) (
  some x1_24)))
set_option maxHeartbeats 4000000 in
set_option maxRecDepth 100000 in
theorem l_X10_canScale_1 {p : Program} {l : Launch} {e : Env} {s : State} {m : MethodId} {args : Array Value} {below : List Frame} {meth : Method} {c : Code} {Q : State → Prop} {A0 : Nat → Prop} {H0 : Heap} (C : CallFix p m c cX10_canScale 3 s args wsX10_canScale RX10) (G : GT) (hK : gK G s) (hA : ∀ q : Nat, H0.size ≤ q → A0 q) (q_t q_t_z q_t_old q_t_past q_t_kept q_t_text q_t_order q_t_told q_t_rowsTaken q_t_columnsTaken q_t_ways q_t_scaled q_t_rowFactors q_t_columnFactors q_t_rest q_t_diagonals q_t_weights : Nat) (t_states : Int32) (t_isKept : Int32) (t_length : Int32) (t_spot : Int32) (t_toldRows : Int32) (t_z : Nat → Int32) (E_x1 : Int32) (K : ∀ (H : Heap) (locs : List Loc) (ls : Array Slot), va_P G.1 vwCl [(q_t, .inr (9, [.ref q_t_z, .ref q_t_old, .ref q_t_past, .int t_states, .ref q_t_kept, .int t_isKept, .ref q_t_text, .int t_length, .ref q_t_order, .ref q_t_told, .int t_spot, .int t_toldRows, .ref q_t_rowsTaken, .ref q_t_columnsTaken, .ref q_t_ways, .ref q_t_scaled, .ref q_t_rowFactors, .ref q_t_columnFactors, .ref q_t_rest, .ref q_t_diagonals, .ref q_t_weights])), (q_t_z, .inl (G.2 0, 50, .inl t_z))] H → va_D A0 [(q_t, .inr (9, [.ref q_t_z, .ref q_t_old, .ref q_t_past, .int t_states, .ref q_t_kept, .int t_isKept, .ref q_t_text, .int t_length, .ref q_t_order, .ref q_t_told, .int t_spot, .int t_toldRows, .ref q_t_rowsTaken, .ref q_t_columnsTaken, .ref q_t_ways, .ref q_t_scaled, .ref q_t_rowFactors, .ref q_t_columnFactors, .ref q_t_rest, .ref q_t_diagonals, .ref q_t_weights])), (q_t_z, .inl (G.2 0, 50, .inl t_z))] → va_S A0 H0 H locs → lv_has ls 3 [(0, .ref q_t), (1, .int E_x1)] → W p l e ({ frames := 2, cells := 0, slots := 0, locals := 46 } : Room) s m args below meth c H locs 0 0 Q (F0 m 35 ls [])) : ∀ (n : Nat) (x1 : Int32) (x2 : Int32), lpN (f_X10_canScale_L1 t_z) n (x1, x2) = some E_x1 → ∀ (H : Heap) (locs : List Loc) (ls : Array Slot), va_P G.1 vwCl [(q_t, .inr (9, [.ref q_t_z, .ref q_t_old, .ref q_t_past, .int t_states, .ref q_t_kept, .int t_isKept, .ref q_t_text, .int t_length, .ref q_t_order, .ref q_t_told, .int t_spot, .int t_toldRows, .ref q_t_rowsTaken, .ref q_t_columnsTaken, .ref q_t_ways, .ref q_t_scaled, .ref q_t_rowFactors, .ref q_t_columnFactors, .ref q_t_rest, .ref q_t_diagonals, .ref q_t_weights])), (q_t_z, .inl (G.2 0, 50, .inl t_z))] H → va_D A0 [(q_t, .inr (9, [.ref q_t_z, .ref q_t_old, .ref q_t_past, .int t_states, .ref q_t_kept, .int t_isKept, .ref q_t_text, .int t_length, .ref q_t_order, .ref q_t_told, .int t_spot, .int t_toldRows, .ref q_t_rowsTaken, .ref q_t_columnsTaken, .ref q_t_ways, .ref q_t_scaled, .ref q_t_rowFactors, .ref q_t_columnFactors, .ref q_t_rest, .ref q_t_diagonals, .ref q_t_weights])), (q_t_z, .inl (G.2 0, 50, .inl t_z))] → va_S A0 H0 H locs → lv_has ls 3 [(0, .ref q_t), (1, .int x1), (2, .int x2)] → W p l e ({ frames := 2, cells := 0, slots := 0, locals := 46 } : Room) s m args below meth c H locs 0 0 Q (F0 m 4 ls []) := by
  obtain ⟨hx, hb, hml, hown, hts⟩ := C
  intro n
  induction n with
  | zero => intro x1 x2 h; exact absurd h (fun h => lp_0 h)
  | succ n ih =>
    intro x1 x2 h H locs ls hP hD hS hl
    obtain ⟨y, h, hk⟩ := lp_s h
    rw [f_X10_canScale_L1] at h
    refine lv_iload_n hx hb dX10_canScale_4 rfl (lv_at hl 2 rfl) ?_
    refine lv_bipush (v := 49) hx hb dX10_canScale_5 (by decide) ?_
    refine lv_icmp_ge (tgt := 35) hx hb dX10_canScale_7 (by decide) (fun c_1 => ?_) (fun c_1 => ?_)
    · replace h := it_t h c_1
      obtain rfl := sm1 h
      obtain rfl := sm1 hk
      exact K H locs ls hP hD hS (lv_sub hl [0, 1] rfl)
    · replace h := it_f h c_1
      refine lv_iload_n hx hb dX10_canScale_10 rfl (lv_at hl 1 rfl) ?_
      refine lv_if_eq (tgt := 27) hx hb dX10_canScale_11 (by decide) (fun c_2 => ?_) (fun c_2 => ?_)
      · replace h := it_t h c_2
        refine lv_iconst (v := 0) hx hb dX10_canScale_27 (by decide) ?_
        refine lv_istore_n (lv' := [(1, .int (0 : Int32)), (0, .ref q_t), (2, .int x2)]) hx hb dX10_canScale_28 rfl hl (by decide) rfl (fun ls hl => ?_)
        obtain ⟨x2_3, ex2_3, h⟩ := pl_ok h
        refine lv_iinc (v := x2_3) (lv' := [(2, .int x2_3), (1, .int (0 : Int32)), (0, .ref q_t)]) hx hb dX10_canScale_29 hl (k := 2) rfl (by rw [ex2_3]; rfl) (by decide) rfl (fun ls hl => ?_)
        refine lv_goto (tgt := 4) hx hb dX10_canScale_32 (by decide) ?_
        obtain rfl := sm1 h
        exact ih (0 : Int32) x2_3 hk H locs ls hP hD hS (lv_sub hl [2, 1, 0] rfl)
      · replace h := it_f h c_2
        refine lv_aload_n hx hb dX10_canScale_14 rfl (lv_at hl 0 rfl) ?_
        refine va_get (D := G.1) (ci := 9) (v := .ref q_t_z) (C := RX10) (T := TX10) (N := 21) hx hb hts wi_X10_canScale_X10 hown hK hP 0 rfl rfl 0 (by decide) (hts _ wd_X10_canScale_1) (fun _ h9 => h9) rfl dX10_canScale_15 ?_
        refine lv_iload_n hx hb dX10_canScale_18 rfl (lv_at hl 2 rfl) ?_
        obtain ⟨g_4, h⟩ := gd_ok h
        refine va_iald (D := G.1) hx hb hK hP 1 0 rfl rfl g_4 dX10_canScale_19 ?_
        refine lv_if_lt (tgt := 27) hx hb dX10_canScale_20 (by decide) (fun c_5 => ?_) (fun c_5 => ?_)
        · replace h := it_t h c_5
          refine lv_iconst (v := 0) hx hb dX10_canScale_27 (by decide) ?_
          refine lv_istore_n (lv' := [(1, .int (0 : Int32)), (0, .ref q_t), (2, .int x2)]) hx hb dX10_canScale_28 rfl hl (by decide) rfl (fun ls hl => ?_)
          obtain ⟨x2_6, ex2_6, h⟩ := pl_ok h
          refine lv_iinc (v := x2_6) (lv' := [(2, .int x2_6), (1, .int (0 : Int32)), (0, .ref q_t)]) hx hb dX10_canScale_29 hl (k := 2) rfl (by rw [ex2_6]; rfl) (by decide) rfl (fun ls hl => ?_)
          refine lv_goto (tgt := 4) hx hb dX10_canScale_32 (by decide) ?_
          obtain rfl := sm1 h
          exact ih (0 : Int32) x2_6 hk H locs ls hP hD hS (lv_sub hl [2, 1, 0] rfl)
        · replace h := it_f h c_5
          refine lv_iconst (v := 1) hx hb dX10_canScale_23 (by decide) ?_
          refine lv_goto (tgt := 28) hx hb dX10_canScale_24 (by decide) ?_
          refine lv_istore_n (lv' := [(1, .int (1 : Int32)), (0, .ref q_t), (2, .int x2)]) hx hb dX10_canScale_28 rfl hl (by decide) rfl (fun ls hl => ?_)
          obtain ⟨x2_7, ex2_7, h⟩ := pl_ok h
          refine lv_iinc (v := x2_7) (lv' := [(2, .int x2_7), (1, .int (1 : Int32)), (0, .ref q_t)]) hx hb dX10_canScale_29 hl (k := 2) rfl (by rw [ex2_7]; rfl) (by decide) rfl (fun ls hl => ?_)
          refine lv_goto (tgt := 4) hx hb dX10_canScale_32 (by decide) ?_
          obtain rfl := sm1 h
          exact ih (1 : Int32) x2_7 hk H locs ls hP hD hS (lv_sub hl [2, 1, 0] rfl)
set_option maxHeartbeats 4000000 in
set_option maxRecDepth 100000 in
theorem l_X10_canScale_2 {p : Program} {l : Launch} {e : Env} {s : State} {m : MethodId} {args : Array Value} {below : List Frame} {meth : Method} {c : Code} {Q : State → Prop} {A0 : Nat → Prop} {H0 : Heap} (C : CallFix p m c cX10_canScale 3 s args wsX10_canScale RX10) (G : GT) (hK : gK G s) (hA : ∀ q : Nat, H0.size ≤ q → A0 q) (q_t q_t_z q_t_old q_t_past q_t_kept q_t_text q_t_order q_t_told q_t_rowsTaken q_t_columnsTaken q_t_ways q_t_scaled q_t_rowFactors q_t_columnFactors q_t_rest q_t_diagonals q_t_weights : Nat) (t_states : Int32) (t_isKept : Int32) (t_length : Int32) (t_spot : Int32) (t_toldRows : Int32) (t_z : Nat → Int32) (E_x1 : Int32) (K : ∀ (H : Heap) (locs : List Loc) (ls : Array Slot), va_P G.1 vwCl [(q_t, .inr (9, [.ref q_t_z, .ref q_t_old, .ref q_t_past, .int t_states, .ref q_t_kept, .int t_isKept, .ref q_t_text, .int t_length, .ref q_t_order, .ref q_t_told, .int t_spot, .int t_toldRows, .ref q_t_rowsTaken, .ref q_t_columnsTaken, .ref q_t_ways, .ref q_t_scaled, .ref q_t_rowFactors, .ref q_t_columnFactors, .ref q_t_rest, .ref q_t_diagonals, .ref q_t_weights])), (q_t_z, .inl (G.2 0, 50, .inl t_z))] H → va_D A0 [(q_t, .inr (9, [.ref q_t_z, .ref q_t_old, .ref q_t_past, .int t_states, .ref q_t_kept, .int t_isKept, .ref q_t_text, .int t_length, .ref q_t_order, .ref q_t_told, .int t_spot, .int t_toldRows, .ref q_t_rowsTaken, .ref q_t_columnsTaken, .ref q_t_ways, .ref q_t_scaled, .ref q_t_rowFactors, .ref q_t_columnFactors, .ref q_t_rest, .ref q_t_diagonals, .ref q_t_weights])), (q_t_z, .inl (G.2 0, 50, .inl t_z))] → va_S A0 H0 H locs → lv_has ls 3 [(1, .int E_x1)] → W p l e ({ frames := 2, cells := 0, slots := 0, locals := 46 } : Room) s m args below meth c H locs 0 0 Q (F0 m 82 ls [])) : ∀ (n : Nat) (x1 : Int32) (x2 : Int32), lpN (f_X10_canScale_L2 t_z) n (x1, x2) = some E_x1 → ∀ (H : Heap) (locs : List Loc) (ls : Array Slot), va_P G.1 vwCl [(q_t, .inr (9, [.ref q_t_z, .ref q_t_old, .ref q_t_past, .int t_states, .ref q_t_kept, .int t_isKept, .ref q_t_text, .int t_length, .ref q_t_order, .ref q_t_told, .int t_spot, .int t_toldRows, .ref q_t_rowsTaken, .ref q_t_columnsTaken, .ref q_t_ways, .ref q_t_scaled, .ref q_t_rowFactors, .ref q_t_columnFactors, .ref q_t_rest, .ref q_t_diagonals, .ref q_t_weights])), (q_t_z, .inl (G.2 0, 50, .inl t_z))] H → va_D A0 [(q_t, .inr (9, [.ref q_t_z, .ref q_t_old, .ref q_t_past, .int t_states, .ref q_t_kept, .int t_isKept, .ref q_t_text, .int t_length, .ref q_t_order, .ref q_t_told, .int t_spot, .int t_toldRows, .ref q_t_rowsTaken, .ref q_t_columnsTaken, .ref q_t_ways, .ref q_t_scaled, .ref q_t_rowFactors, .ref q_t_columnFactors, .ref q_t_rest, .ref q_t_diagonals, .ref q_t_weights])), (q_t_z, .inl (G.2 0, 50, .inl t_z))] → va_S A0 H0 H locs → lv_has ls 3 [(0, .ref q_t), (1, .int x1), (2, .int x2)] → W p l e ({ frames := 2, cells := 0, slots := 0, locals := 46 } : Room) s m args below meth c H locs 0 0 Q (F0 m 37 ls []) := by
  obtain ⟨hx, hb, hml, hown, hts⟩ := C
  intro n
  induction n with
  | zero => intro x1 x2 h; exact absurd h (fun h => lp_0 h)
  | succ n ih =>
    intro x1 x2 h H locs ls hP hD hS hl
    obtain ⟨y, h, hk⟩ := lp_s h
    rw [f_X10_canScale_L2] at h
    refine lv_iload_n hx hb dX10_canScale_37 rfl (lv_at hl 2 rfl) ?_
    refine lv_aload_n hx hb dX10_canScale_38 rfl (lv_at hl 0 rfl) ?_
    refine va_get (D := G.1) (ci := 9) (v := .ref q_t_z) (C := RX10) (T := TX10) (N := 21) hx hb hts wi_X10_canScale_X10 hown hK hP 0 rfl rfl 0 (by decide) (hts _ wd_X10_canScale_1) (fun _ h9 => h9) rfl dX10_canScale_39 ?_
    refine lv_bipush (v := 49) hx hb dX10_canScale_42 (by decide) ?_
    obtain ⟨g_11, h⟩ := gd_ok h
    refine va_iald (D := G.1) hx hb hK hP 1 0 rfl rfl g_11 dX10_canScale_44 ?_
    refine lv_icmp_ge (tgt := 82) hx hb dX10_canScale_45 (by decide) (fun c_12 => ?_) (fun c_12 => ?_)
    · replace h := it_t h c_12
      obtain rfl := sm1 h
      obtain rfl := sm1 hk
      exact K H locs ls hP hD hS (lv_sub hl [1] rfl)
    · replace h := it_f h c_12
      refine lv_iload_n hx hb dX10_canScale_48 rfl (lv_at hl 1 rfl) ?_
      refine lv_if_eq (tgt := 74) hx hb dX10_canScale_49 (by decide) (fun c_13 => ?_) (fun c_13 => ?_)
      · replace h := it_t h c_13
        refine lv_iconst (v := 0) hx hb dX10_canScale_74 (by decide) ?_
        refine lv_istore_n (lv' := [(1, .int (0 : Int32)), (0, .ref q_t), (2, .int x2)]) hx hb dX10_canScale_75 rfl hl (by decide) rfl (fun ls hl => ?_)
        obtain ⟨x2_14, ex2_14, h⟩ := pl_ok h
        refine lv_iinc (v := x2_14) (lv' := [(2, .int x2_14), (1, .int (0 : Int32)), (0, .ref q_t)]) hx hb dX10_canScale_76 hl (k := 2) rfl (by rw [ex2_14]; rfl) (by decide) rfl (fun ls hl => ?_)
        refine lv_goto (tgt := 37) hx hb dX10_canScale_79 (by decide) ?_
        obtain rfl := sm1 h
        exact ih (0 : Int32) x2_14 hk H locs ls hP hD hS (lv_sub hl [2, 1, 0] rfl)
      · replace h := it_f h c_13
        refine lv_aload_n hx hb dX10_canScale_52 rfl (lv_at hl 0 rfl) ?_
        refine lv_iload_n hx hb dX10_canScale_53 rfl (lv_at hl 2 rfl) ?_
        refine lv_iconst (v := 0) hx hb dX10_canScale_54 (by decide) ?_
        obtain ⟨r_15, hf_16, h⟩ := bd_ok h
        refine ck_Vi (rest := []) (wn := [(q_t, .inr (9, [.ref q_t_z, .ref q_t_old, .ref q_t_past, .int t_states, .ref q_t_kept, .int t_isKept, .ref q_t_text, .int t_length, .ref q_t_order, .ref q_t_told, .int t_spot, .int t_toldRows, .ref q_t_rowsTaken, .ref q_t_columnsTaken, .ref q_t_ways, .ref q_t_scaled, .ref q_t_rowFactors, .ref q_t_columnFactors, .ref q_t_rest, .ref q_t_diagonals, .ref q_t_weights])), (q_t_z, .inl (G.2 0, 50, .inl t_z))]) ⟨hx, hb, hml, hown, hts⟩ hK hP hD hS hA [0, 1] [] [0, 1] (c_X10_sumOfLine l G q_t q_t_z q_t_old q_t_past q_t_kept q_t_text q_t_order q_t_told q_t_rowsTaken q_t_columnsTaken q_t_ways q_t_scaled q_t_rowFactors q_t_columnFactors q_t_rest q_t_diagonals q_t_weights _ t_states t_isKept t_length t_spot t_toldRows t_z x2 (0 : Int32) _ hf_16) (cwV 2 hts gX10_canScale_X10_sumOfLine rfl rfl rfl (by decide +kernel) ⟨Nat.le_of_ble_eq_true rfl, Nat.le_of_ble_eq_true rfl⟩) rfl rfl rfl rfl rfl rfl (by decide) rfl rfl rfl hl.1 rfl (Nat.le_of_ble_eq_true rfl) dX10_canScale_55 ⟨Nat.zero_le _, Nat.zero_le _⟩ (fun H locs hP hD hS => ?_)
        refine lv_if_le (tgt := 74) hx hb dX10_canScale_58 (by decide) (fun c_17 => ?_) (fun c_17 => ?_)
        · replace h := it_t h c_17
          refine lv_iconst (v := 0) hx hb dX10_canScale_74 (by decide) ?_
          refine lv_istore_n (lv' := [(1, .int (0 : Int32)), (0, .ref q_t), (2, .int x2)]) hx hb dX10_canScale_75 rfl hl (by decide) rfl (fun ls hl => ?_)
          obtain ⟨x2_18, ex2_18, h⟩ := pl_ok h
          refine lv_iinc (v := x2_18) (lv' := [(2, .int x2_18), (1, .int (0 : Int32)), (0, .ref q_t)]) hx hb dX10_canScale_76 hl (k := 2) rfl (by rw [ex2_18]; rfl) (by decide) rfl (fun ls hl => ?_)
          refine lv_goto (tgt := 37) hx hb dX10_canScale_79 (by decide) ?_
          obtain rfl := sm1 h
          exact ih (0 : Int32) x2_18 hk H locs ls hP hD hS (lv_sub hl [2, 1, 0] rfl)
        · replace h := it_f h c_17
          refine lv_aload_n hx hb dX10_canScale_61 rfl (lv_at hl 0 rfl) ?_
          refine lv_iload_n hx hb dX10_canScale_62 rfl (lv_at hl 2 rfl) ?_
          refine lv_iconst (v := 1) hx hb dX10_canScale_63 (by decide) ?_
          obtain ⟨r_19, hf_20, h⟩ := bd_ok h
          refine ck_Vi (rest := []) (wn := [(q_t, .inr (9, [.ref q_t_z, .ref q_t_old, .ref q_t_past, .int t_states, .ref q_t_kept, .int t_isKept, .ref q_t_text, .int t_length, .ref q_t_order, .ref q_t_told, .int t_spot, .int t_toldRows, .ref q_t_rowsTaken, .ref q_t_columnsTaken, .ref q_t_ways, .ref q_t_scaled, .ref q_t_rowFactors, .ref q_t_columnFactors, .ref q_t_rest, .ref q_t_diagonals, .ref q_t_weights])), (q_t_z, .inl (G.2 0, 50, .inl t_z))]) ⟨hx, hb, hml, hown, hts⟩ hK hP hD hS hA [0, 1] [] [0, 1] (c_X10_sumOfLine l G q_t q_t_z q_t_old q_t_past q_t_kept q_t_text q_t_order q_t_told q_t_rowsTaken q_t_columnsTaken q_t_ways q_t_scaled q_t_rowFactors q_t_columnFactors q_t_rest q_t_diagonals q_t_weights _ t_states t_isKept t_length t_spot t_toldRows t_z x2 (1 : Int32) _ hf_20) (cwV 2 hts gX10_canScale_X10_sumOfLine rfl rfl rfl (by decide +kernel) ⟨Nat.le_of_ble_eq_true rfl, Nat.le_of_ble_eq_true rfl⟩) rfl rfl rfl rfl rfl rfl (by decide) rfl rfl rfl hl.1 rfl (Nat.le_of_ble_eq_true rfl) dX10_canScale_64 ⟨Nat.zero_le _, Nat.zero_le _⟩ (fun H locs hP hD hS => ?_)
          refine lv_if_le (tgt := 74) hx hb dX10_canScale_67 (by decide) (fun c_21 => ?_) (fun c_21 => ?_)
          · replace h := it_t h c_21
            refine lv_iconst (v := 0) hx hb dX10_canScale_74 (by decide) ?_
            refine lv_istore_n (lv' := [(1, .int (0 : Int32)), (0, .ref q_t), (2, .int x2)]) hx hb dX10_canScale_75 rfl hl (by decide) rfl (fun ls hl => ?_)
            obtain ⟨x2_22, ex2_22, h⟩ := pl_ok h
            refine lv_iinc (v := x2_22) (lv' := [(2, .int x2_22), (1, .int (0 : Int32)), (0, .ref q_t)]) hx hb dX10_canScale_76 hl (k := 2) rfl (by rw [ex2_22]; rfl) (by decide) rfl (fun ls hl => ?_)
            refine lv_goto (tgt := 37) hx hb dX10_canScale_79 (by decide) ?_
            obtain rfl := sm1 h
            exact ih (0 : Int32) x2_22 hk H locs ls hP hD hS (lv_sub hl [2, 1, 0] rfl)
          · replace h := it_f h c_21
            refine lv_iconst (v := 1) hx hb dX10_canScale_70 (by decide) ?_
            refine lv_goto (tgt := 75) hx hb dX10_canScale_71 (by decide) ?_
            refine lv_istore_n (lv' := [(1, .int (1 : Int32)), (0, .ref q_t), (2, .int x2)]) hx hb dX10_canScale_75 rfl hl (by decide) rfl (fun ls hl => ?_)
            obtain ⟨x2_23, ex2_23, h⟩ := pl_ok h
            refine lv_iinc (v := x2_23) (lv' := [(2, .int x2_23), (1, .int (1 : Int32)), (0, .ref q_t)]) hx hb dX10_canScale_76 hl (k := 2) rfl (by rw [ex2_23]; rfl) (by decide) rfl (fun ls hl => ?_)
            refine lv_goto (tgt := 37) hx hb dX10_canScale_79 (by decide) ?_
            obtain rfl := sm1 h
            exact ih (1 : Int32) x2_23 hk H locs ls hP hD hS (lv_sub hl [2, 1, 0] rfl)
set_option maxHeartbeats 4000000 in
set_option maxRecDepth 100000 in
theorem k_X10_canScale {p : Program} {l : Launch} {e : Env} {s : State} {m : MethodId} {args : Array Value} {below : List Frame} {meth : Method} {c : Code} {Q : State → Prop} {A0 : Nat → Prop} {H0 : Heap} (C : CallFix p m c cX10_canScale 3 s args wsX10_canScale RX10) (G : GT) (hK : gK G s) (hA : ∀ q : Nat, H0.size ≤ q → A0 q) (q_t q_t_z q_t_old q_t_past q_t_kept q_t_text q_t_order q_t_told q_t_rowsTaken q_t_columnsTaken q_t_ways q_t_scaled q_t_rowFactors q_t_columnFactors q_t_rest q_t_diagonals q_t_weights : Nat) (t_states : Int32) (t_isKept : Int32) (t_length : Int32) (t_spot : Int32) (t_toldRows : Int32) (t_z : Nat → Int32) (r : Int32) (h : f_X10_canScale t_z = some r) (KR : ∀ (H : Heap) (locs : List Loc) (ls : Array Slot) (pc : Nat), decode cX10_canScale pc = .ok (.ireturn, 1) → (r = 0 ∨ r = 1) → va_P G.1 vwCl [(q_t, .inr (9, [.ref q_t_z, .ref q_t_old, .ref q_t_past, .int t_states, .ref q_t_kept, .int t_isKept, .ref q_t_text, .int t_length, .ref q_t_order, .ref q_t_told, .int t_spot, .int t_toldRows, .ref q_t_rowsTaken, .ref q_t_columnsTaken, .ref q_t_ways, .ref q_t_scaled, .ref q_t_rowFactors, .ref q_t_columnFactors, .ref q_t_rest, .ref q_t_diagonals, .ref q_t_weights])), (q_t_z, .inl (G.2 0, 50, .inl t_z))] H → va_D A0 [(q_t, .inr (9, [.ref q_t_z, .ref q_t_old, .ref q_t_past, .int t_states, .ref q_t_kept, .int t_isKept, .ref q_t_text, .int t_length, .ref q_t_order, .ref q_t_told, .int t_spot, .int t_toldRows, .ref q_t_rowsTaken, .ref q_t_columnsTaken, .ref q_t_ways, .ref q_t_scaled, .ref q_t_rowFactors, .ref q_t_columnFactors, .ref q_t_rest, .ref q_t_diagonals, .ref q_t_weights])), (q_t_z, .inl (G.2 0, 50, .inl t_z))] → va_S A0 H0 H locs → W p l e ({ frames := 2, cells := 0, slots := 0, locals := 46 } : Room) s m args below meth c H locs 0 0 Q (F0 m pc ls [.int r])) : ∀ (H : Heap) (locs : List Loc) (ls : Array Slot), va_P G.1 vwCl [(q_t, .inr (9, [.ref q_t_z, .ref q_t_old, .ref q_t_past, .int t_states, .ref q_t_kept, .int t_isKept, .ref q_t_text, .int t_length, .ref q_t_order, .ref q_t_told, .int t_spot, .int t_toldRows, .ref q_t_rowsTaken, .ref q_t_columnsTaken, .ref q_t_ways, .ref q_t_scaled, .ref q_t_rowFactors, .ref q_t_columnFactors, .ref q_t_rest, .ref q_t_diagonals, .ref q_t_weights])), (q_t_z, .inl (G.2 0, 50, .inl t_z))] H → va_D A0 [(q_t, .inr (9, [.ref q_t_z, .ref q_t_old, .ref q_t_past, .int t_states, .ref q_t_kept, .int t_isKept, .ref q_t_text, .int t_length, .ref q_t_order, .ref q_t_told, .int t_spot, .int t_toldRows, .ref q_t_rowsTaken, .ref q_t_columnsTaken, .ref q_t_ways, .ref q_t_scaled, .ref q_t_rowFactors, .ref q_t_columnFactors, .ref q_t_rest, .ref q_t_diagonals, .ref q_t_weights])), (q_t_z, .inl (G.2 0, 50, .inl t_z))] → va_S A0 H0 H locs → lv_has ls 3 [(0, .ref q_t)] → W p l e ({ frames := 2, cells := 0, slots := 0, locals := 46 } : Room) s m args below meth c H locs 0 0 Q (F0 m 0 ls []) := by
  obtain ⟨hx, hb, hml, hown, hts⟩ := C
  intro H locs ls hP hD hS hl
  rw [f_X10_canScale] at h
  refine lv_iconst (v := 1) hx hb dX10_canScale_0 (by decide) ?_
  refine lv_istore_n (lv' := [(1, .int (1 : Int32)), (0, .ref q_t)]) hx hb dX10_canScale_1 rfl hl (by decide) rfl (fun ls hl => ?_)
  refine lv_iconst (v := 0) hx hb dX10_canScale_2 (by decide) ?_
  refine lv_istore_n (lv' := [(2, .int (0 : Int32)), (1, .int (1 : Int32)), (0, .ref q_t)]) hx hb dX10_canScale_3 rfl hl (by decide) rfl (fun ls hl => ?_)
  obtain ⟨x1_8, hz_10, h⟩ := bd_ok h
  refine l_X10_canScale_1 ⟨hx, hb, hml, hown, hts⟩ G hK hA q_t q_t_z q_t_old q_t_past q_t_kept q_t_text q_t_order q_t_told q_t_rowsTaken q_t_columnsTaken q_t_ways q_t_scaled q_t_rowFactors q_t_columnFactors q_t_rest q_t_diagonals q_t_weights t_states t_isKept t_length t_spot t_toldRows t_z x1_8 ?_ FU (1 : Int32) (0 : Int32) hz_10 H locs ls hP hD hS (lv_sub hl [2, 1, 0] rfl)
  intro H locs ls hP hD hS hl
  refine lv_iconst (v := 0) hx hb dX10_canScale_35 (by decide) ?_
  refine lv_istore_n (lv' := [(2, .int (0 : Int32)), (0, .ref q_t), (1, .int x1_8)]) hx hb dX10_canScale_36 rfl hl (by decide) rfl (fun ls hl => ?_)
  obtain ⟨x1_24, hz_26, h⟩ := bd_ok h
  refine l_X10_canScale_2 ⟨hx, hb, hml, hown, hts⟩ G hK hA q_t q_t_z q_t_old q_t_past q_t_kept q_t_text q_t_order q_t_told q_t_rowsTaken q_t_columnsTaken q_t_ways q_t_scaled q_t_rowFactors q_t_columnFactors q_t_rest q_t_diagonals q_t_weights t_states t_isKept t_length t_spot t_toldRows t_z x1_24 ?_ FU x1_8 (0 : Int32) hz_26 H locs ls hP hD hS (lv_sub hl [1, 2, 0] rfl)
  intro H locs ls hP hD hS hl
  refine lv_iload_n hx hb dX10_canScale_82 rfl (lv_at hl 0 rfl) ?_
  obtain ⟨g_27, h⟩ := gd_ok h
  obtain rfl := sm1 h
  exact KR H locs ls 83 dX10_canScale_83 g_27 hP hD hS
set_option maxHeartbeats 4000000 in
set_option maxRecDepth 100000 in
theorem c_X10_canScale (l : Launch) (G : GT) (q_t q_t_z q_t_old q_t_past q_t_kept q_t_text q_t_order q_t_told q_t_rowsTaken q_t_columnsTaken q_t_ways q_t_scaled q_t_rowFactors q_t_columnFactors q_t_rest q_t_diagonals q_t_weights : Nat) (sz : Nat) (t_states : Int32) (t_isKept : Int32) (t_length : Int32) (t_spot : Int32) (t_toldRows : Int32) (t_z : Nat → Int32) (r : Int32) (h : f_X10_canScale t_z = some r) : Met l yX10_canScale wsX10_canScale ({ frames := 2, cells := 0, slots := 0, locals := 46 } : Room) (va_Pc [.ref q_t] (pcW G [(q_t, .inr (9, [.ref q_t_z, .ref q_t_old, .ref q_t_past, .int t_states, .ref q_t_kept, .int t_isKept, .ref q_t_text, .int t_length, .ref q_t_order, .ref q_t_told, .int t_spot, .int t_toldRows, .ref q_t_rowsTaken, .ref q_t_columnsTaken, .ref q_t_ways, .ref q_t_scaled, .ref q_t_rowFactors, .ref q_t_columnFactors, .ref q_t_rest, .ref q_t_diagonals, .ref q_t_weights])), (q_t_z, .inl (G.2 0, 50, .inl t_z))] sz)) (va_Qi (fun r9 (_ : Unit) => r9 = r) (fun _ t => atW G (va_A [(q_t, .inr (9, [.ref q_t_z, .ref q_t_old, .ref q_t_past, .int t_states, .ref q_t_kept, .int t_isKept, .ref q_t_text, .int t_length, .ref q_t_order, .ref q_t_told, .int t_spot, .int t_toldRows, .ref q_t_rowsTaken, .ref q_t_columnsTaken, .ref q_t_ways, .ref q_t_scaled, .ref q_t_rowFactors, .ref q_t_columnFactors, .ref q_t_rest, .ref q_t_diagonals, .ref q_t_weights])), (q_t_z, .inl (G.2 0, 50, .inl t_z))] sz) [(q_t, .inr (9, [.ref q_t_z, .ref q_t_old, .ref q_t_past, .int t_states, .ref q_t_kept, .int t_isKept, .ref q_t_text, .int t_length, .ref q_t_order, .ref q_t_told, .int t_spot, .int t_toldRows, .ref q_t_rowsTaken, .ref q_t_columnsTaken, .ref q_t_ways, .ref q_t_scaled, .ref q_t_rowFactors, .ref q_t_columnFactors, .ref q_t_rest, .ref q_t_diagonals, .ref q_t_weights])), (q_t_z, .inl (G.2 0, 50, .inl t_z))] t) (va_A [(q_t, .inr (9, [.ref q_t_z, .ref q_t_old, .ref q_t_past, .int t_states, .ref q_t_kept, .int t_isKept, .ref q_t_text, .int t_length, .ref q_t_order, .ref q_t_told, .int t_spot, .int t_toldRows, .ref q_t_rowsTaken, .ref q_t_columnsTaken, .ref q_t_ways, .ref q_t_scaled, .ref q_t_rowFactors, .ref q_t_columnFactors, .ref q_t_rest, .ref q_t_diagonals, .ref q_t_weights])), (q_t_z, .inl (G.2 0, 50, .inl t_z))] sz)) 0 0 (va_A [(q_t, .inr (9, [.ref q_t_z, .ref q_t_old, .ref q_t_past, .int t_states, .ref q_t_kept, .int t_isKept, .ref q_t_text, .int t_length, .ref q_t_order, .ref q_t_told, .int t_spot, .int t_toldRows, .ref q_t_rowsTaken, .ref q_t_columnsTaken, .ref q_t_ways, .ref q_t_scaled, .ref q_t_rowFactors, .ref q_t_columnFactors, .ref q_t_rest, .ref q_t_diagonals, .ref q_t_weights])), (q_t_z, .inl (G.2 0, 50, .inl t_z))] sz) := by
  refine Met.ofW (cc := cX10_canScale) (maxL := 3) (ret := (some .boolean)) (by decide) rfl ?_
  intro p e s m args below meth c s₁ B hml hv
  obtain ⟨rfl, hsz, hP, hK, hD0⟩ := hv
  subst hsz
  have hD := hD0.self (sz := s.heap.size)
  generalize hAe : va_A [(q_t, .inr (9, [.ref q_t_z, .ref q_t_old, .ref q_t_past, .int t_states, .ref q_t_kept, .int t_isKept, .ref q_t_text, .int t_length, .ref q_t_order, .ref q_t_told, .int t_spot, .int t_toldRows, .ref q_t_rowsTaken, .ref q_t_columnsTaken, .ref q_t_ways, .ref q_t_scaled, .ref q_t_rowFactors, .ref q_t_columnFactors, .ref q_t_rest, .ref q_t_diagonals, .ref q_t_weights])), (q_t_z, .inl (G.2 0, 50, .inl t_z))] s.heap.size = A at hD ⊢
  have hA : ∀ q : Nat, s.heap.size ≤ q → A q := fun q h => by rw [← hAe]; exact Or.inr h
  have hl := lv_entry ([.ref q_t]) (n := 3) (Nat.le_of_ble_eq_true rfl)
  rw [lg_entry_eq]
  refine k_X10_canScale ⟨B.exec, B.bytes, hml, findClass_of_methodNamed B.named, atoms_spec (ws := wsX10_canScale) B.pre⟩ G hK hA q_t q_t_z q_t_old q_t_past q_t_kept q_t_text q_t_order q_t_told q_t_rowsTaken q_t_columnsTaken q_t_ways q_t_scaled q_t_rowFactors q_t_columnFactors q_t_rest q_t_diagonals q_t_weights _ _ _ _ _ _ _ h ?_ _ _ _ hP hD va_S.rf hl
  intro H locs ls pc hd hbo hP hD hS
  exact W.zret B.exec B.bytes B.returns (by rcases hbo with e | e <;> subst e <;> rfl) (fun t ht hW => ⟨⟨r, (), rfl, rfl, by rw [ht]; exact hP, hD⟩, hS.F ht⟩) hS.2.2 hd B.notSynchronized
