set_option maxRecDepth 20000 in
theorem wd_X10_sumOfLine_1 : Cond.fieldLink RX10 7 "PermanentDeskModel" "z" "[I" ∈ wsX10_sumOfLine := List.mem_of_getElem? (i := 1) (by decide +kernel)
set_option maxRecDepth 20000 in
theorem wi_X10_sumOfLine_X10 : ∀ w ∈ u_ws RX10 TX10 21, w ∈ wsX10_sumOfLine := by decide +kernel
def f_X10_sumOfLine_L1 (x1 : Int32) (x2 : Int32) (t_z : Nat → Int32) : (Int32 × Int32) → Option ((Int32 × Int32) ⊕ Int32)
  | (x3, x4) =>
    gd (okI (49 : Int32) 50) (
    if (t_z (49 : Int32).toNatClampNeg) ≤ x4 then
      some (.inr x3)
    else
      if x2 = 0 then
        (f_X10_at t_z x1 x4).bind (fun r_4 =>
        pl ((x3 + r_4) : Int32) (fun x3_6 =>
        pl ((x4 + (1 : Int32)) : Int32) (fun x4_7 =>
        some (.inl (x3_6, x4_7)))))
      else
        (f_X10_at t_z x4 x1).bind (fun r_8 =>
        pl ((x3 + r_8) : Int32) (fun x3_10 =>
        pl ((x4 + (1 : Int32)) : Int32) (fun x4_11 =>
        some (.inl (x3_10, x4_11))))))
def f_X10_sumOfLine (t_z : Nat → Int32) (a1 : Int32) (a2 : Int32) : Option Int32 :=
  (lpN (f_X10_sumOfLine_L1 a1 a2 t_z) FU ((0 : Int32), (0 : Int32))).bind (fun x3_12 =>
  some x3_12)
set_option maxHeartbeats 4000000 in
set_option maxRecDepth 100000 in
theorem l_X10_sumOfLine_1 {p : Program} {l : Launch} {e : Env} {s : State} {m : MethodId} {args : Array Value} {below : List Frame} {meth : Method} {c : Code} {Q : State → Prop} {A0 : Nat → Prop} {H0 : Heap} (C : CallFix p m c cX10_sumOfLine 5 s args wsX10_sumOfLine RX10) (G : GT) (hK : gK G s) (hA : ∀ q : Nat, H0.size ≤ q → A0 q) (q_t q_t_z q_t_old q_t_past q_t_kept q_t_text q_t_order q_t_told q_t_rowsTaken q_t_columnsTaken q_t_ways q_t_scaled q_t_rowFactors q_t_columnFactors q_t_rest q_t_diagonals q_t_weights : Nat) (x1 : Int32) (x2 : Int32) (t_states : Int32) (t_isKept : Int32) (t_length : Int32) (t_spot : Int32) (t_toldRows : Int32) (t_z : Nat → Int32) (E_x3 : Int32) (K : ∀ (H : Heap) (locs : List Loc) (ls : Array Slot), va_P G.1 vwCl [(q_t, .inr (9, [.ref q_t_z, .ref q_t_old, .ref q_t_past, .int t_states, .ref q_t_kept, .int t_isKept, .ref q_t_text, .int t_length, .ref q_t_order, .ref q_t_told, .int t_spot, .int t_toldRows, .ref q_t_rowsTaken, .ref q_t_columnsTaken, .ref q_t_ways, .ref q_t_scaled, .ref q_t_rowFactors, .ref q_t_columnFactors, .ref q_t_rest, .ref q_t_diagonals, .ref q_t_weights])), (q_t_z, .inl (G.2 0, 50, .inl t_z))] H → va_D A0 [(q_t, .inr (9, [.ref q_t_z, .ref q_t_old, .ref q_t_past, .int t_states, .ref q_t_kept, .int t_isKept, .ref q_t_text, .int t_length, .ref q_t_order, .ref q_t_told, .int t_spot, .int t_toldRows, .ref q_t_rowsTaken, .ref q_t_columnsTaken, .ref q_t_ways, .ref q_t_scaled, .ref q_t_rowFactors, .ref q_t_columnFactors, .ref q_t_rest, .ref q_t_diagonals, .ref q_t_weights])), (q_t_z, .inl (G.2 0, 50, .inl t_z))] → va_S A0 H0 H locs → lv_has ls 5 [(3, .int E_x3)] → W p l e ({ frames := 1, cells := 0, slots := 0, locals := 22 } : Room) s m args below meth c H locs 0 0 Q (F0 m 47 ls [])) : ∀ (n : Nat) (x3 : Int32) (x4 : Int32), lpN (f_X10_sumOfLine_L1 x1 x2 t_z) n (x3, x4) = some E_x3 → ∀ (H : Heap) (locs : List Loc) (ls : Array Slot), va_P G.1 vwCl [(q_t, .inr (9, [.ref q_t_z, .ref q_t_old, .ref q_t_past, .int t_states, .ref q_t_kept, .int t_isKept, .ref q_t_text, .int t_length, .ref q_t_order, .ref q_t_told, .int t_spot, .int t_toldRows, .ref q_t_rowsTaken, .ref q_t_columnsTaken, .ref q_t_ways, .ref q_t_scaled, .ref q_t_rowFactors, .ref q_t_columnFactors, .ref q_t_rest, .ref q_t_diagonals, .ref q_t_weights])), (q_t_z, .inl (G.2 0, 50, .inl t_z))] H → va_D A0 [(q_t, .inr (9, [.ref q_t_z, .ref q_t_old, .ref q_t_past, .int t_states, .ref q_t_kept, .int t_isKept, .ref q_t_text, .int t_length, .ref q_t_order, .ref q_t_told, .int t_spot, .int t_toldRows, .ref q_t_rowsTaken, .ref q_t_columnsTaken, .ref q_t_ways, .ref q_t_scaled, .ref q_t_rowFactors, .ref q_t_columnFactors, .ref q_t_rest, .ref q_t_diagonals, .ref q_t_weights])), (q_t_z, .inl (G.2 0, 50, .inl t_z))] → va_S A0 H0 H locs → lv_has ls 5 [(0, .ref q_t), (1, .int x1), (2, .int x2), (3, .int x3), (4, .int x4)] → W p l e ({ frames := 1, cells := 0, slots := 0, locals := 22 } : Room) s m args below meth c H locs 0 0 Q (F0 m 5 ls []) := by
  obtain ⟨hx, hb, hml, hown, hts⟩ := C
  intro n
  induction n with
  | zero => intro x3 x4 h; exact absurd h (fun h => lp_0 h)
  | succ n ih =>
    intro x3 x4 h H locs ls hP hD hS hl
    obtain ⟨y, h, hk⟩ := lp_s h
    rw [f_X10_sumOfLine_L1] at h
    refine lv_iload hx hb dX10_sumOfLine_5 (lv_at hl 4 rfl) ?_
    refine lv_aload_n hx hb dX10_sumOfLine_7 rfl (lv_at hl 0 rfl) ?_
    refine va_get (D := G.1) (ci := 9) (v := .ref q_t_z) (C := RX10) (T := TX10) (N := 21) hx hb hts wi_X10_sumOfLine_X10 hown hK hP 0 rfl rfl 0 (by decide) (hts _ wd_X10_sumOfLine_1) (fun _ h9 => h9) rfl dX10_sumOfLine_8 ?_
    refine lv_bipush (v := 49) hx hb dX10_sumOfLine_11 (by decide) ?_
    obtain ⟨g_1, h⟩ := gd_ok h
    refine va_iald (D := G.1) hx hb hK hP 1 0 rfl rfl g_1 dX10_sumOfLine_13 ?_
    refine lv_icmp_ge (tgt := 47) hx hb dX10_sumOfLine_14 (by decide) (fun c_2 => ?_) (fun c_2 => ?_)
    · replace h := it_t h c_2
      obtain rfl := sm1 h
      obtain rfl := sm1 hk
      exact K H locs ls hP hD hS (lv_sub hl [3] rfl)
    · replace h := it_f h c_2
      refine lv_iload_n hx hb dX10_sumOfLine_17 rfl (lv_at hl 3 rfl) ?_
      refine lv_iload_n hx hb dX10_sumOfLine_18 rfl (lv_at hl 2 rfl) ?_
      refine lv_if_eq (tgt := 32) hx hb dX10_sumOfLine_19 (by decide) (fun c_3 => ?_) (fun c_3 => ?_)
      · replace h := it_t h c_3
        refine lv_aload_n hx hb dX10_sumOfLine_32 rfl (lv_at hl 0 rfl) ?_
        refine lv_iload_n hx hb dX10_sumOfLine_33 rfl (lv_at hl 1 rfl) ?_
        refine lv_iload hx hb dX10_sumOfLine_34 (lv_at hl 4 rfl) ?_
        obtain ⟨r_4, hf_5, h⟩ := bd_ok h
        refine ck_Vi (rest := [.int x3]) (wn := [(q_t, .inr (9, [.ref q_t_z, .ref q_t_old, .ref q_t_past, .int t_states, .ref q_t_kept, .int t_isKept, .ref q_t_text, .int t_length, .ref q_t_order, .ref q_t_told, .int t_spot, .int t_toldRows, .ref q_t_rowsTaken, .ref q_t_columnsTaken, .ref q_t_ways, .ref q_t_scaled, .ref q_t_rowFactors, .ref q_t_columnFactors, .ref q_t_rest, .ref q_t_diagonals, .ref q_t_weights])), (q_t_z, .inl (G.2 0, 50, .inl t_z))]) ⟨hx, hb, hml, hown, hts⟩ hK hP hD hS hA [0, 1] [] [0, 1] (c_X10_at l G q_t q_t_z q_t_old q_t_past q_t_kept q_t_text q_t_order q_t_told q_t_rowsTaken q_t_columnsTaken q_t_ways q_t_scaled q_t_rowFactors q_t_columnFactors q_t_rest q_t_diagonals q_t_weights _ t_states t_isKept t_length t_spot t_toldRows t_z x1 x4 _ hf_5) (cwV 2 hts gX10_sumOfLine_X10_at rfl rfl rfl (by decide +kernel) ⟨Nat.le_of_ble_eq_true rfl, Nat.le_of_ble_eq_true rfl⟩) rfl rfl rfl rfl rfl rfl (by decide) rfl rfl rfl hl.1 rfl (Nat.le_of_ble_eq_true rfl) dX10_sumOfLine_36 ⟨Nat.zero_le _, Nat.zero_le _⟩ (fun H locs hP hD hS => ?_)
        refine lv_iadd hx hb dX10_sumOfLine_39 ?_
        refine lv_topi (fun x3_6 ex3_6 => ?_)
        replace h := pl_v h ex3_6
        refine lv_istore_n (lv' := [(3, .int x3_6), (0, .ref q_t), (1, .int x1), (2, .int x2), (4, .int x4)]) hx hb dX10_sumOfLine_40 rfl hl (by decide) rfl (fun ls hl => ?_)
        obtain ⟨x4_7, ex4_7, h⟩ := pl_ok h
        refine lv_iinc (v := x4_7) (lv' := [(4, .int x4_7), (3, .int x3_6), (0, .ref q_t), (1, .int x1), (2, .int x2)]) hx hb dX10_sumOfLine_41 hl (k := 4) rfl (by rw [ex4_7]; rfl) (by decide) rfl (fun ls hl => ?_)
        refine lv_goto (tgt := 5) hx hb dX10_sumOfLine_44 (by decide) ?_
        obtain rfl := sm1 h
        exact ih x3_6 x4_7 hk H locs ls hP hD hS (lv_sub hl [2, 3, 4, 1, 0] rfl)
      · replace h := it_f h c_3
        refine lv_aload_n hx hb dX10_sumOfLine_22 rfl (lv_at hl 0 rfl) ?_
        refine lv_iload hx hb dX10_sumOfLine_23 (lv_at hl 4 rfl) ?_
        refine lv_iload_n hx hb dX10_sumOfLine_25 rfl (lv_at hl 1 rfl) ?_
        obtain ⟨r_8, hf_9, h⟩ := bd_ok h
        refine ck_Vi (rest := [.int x3]) (wn := [(q_t, .inr (9, [.ref q_t_z, .ref q_t_old, .ref q_t_past, .int t_states, .ref q_t_kept, .int t_isKept, .ref q_t_text, .int t_length, .ref q_t_order, .ref q_t_told, .int t_spot, .int t_toldRows, .ref q_t_rowsTaken, .ref q_t_columnsTaken, .ref q_t_ways, .ref q_t_scaled, .ref q_t_rowFactors, .ref q_t_columnFactors, .ref q_t_rest, .ref q_t_diagonals, .ref q_t_weights])), (q_t_z, .inl (G.2 0, 50, .inl t_z))]) ⟨hx, hb, hml, hown, hts⟩ hK hP hD hS hA [0, 1] [] [0, 1] (c_X10_at l G q_t q_t_z q_t_old q_t_past q_t_kept q_t_text q_t_order q_t_told q_t_rowsTaken q_t_columnsTaken q_t_ways q_t_scaled q_t_rowFactors q_t_columnFactors q_t_rest q_t_diagonals q_t_weights _ t_states t_isKept t_length t_spot t_toldRows t_z x4 x1 _ hf_9) (cwV 2 hts gX10_sumOfLine_X10_at rfl rfl rfl (by decide +kernel) ⟨Nat.le_of_ble_eq_true rfl, Nat.le_of_ble_eq_true rfl⟩) rfl rfl rfl rfl rfl rfl (by decide) rfl rfl rfl hl.1 rfl (Nat.le_of_ble_eq_true rfl) dX10_sumOfLine_26 ⟨Nat.zero_le _, Nat.zero_le _⟩ (fun H locs hP hD hS => ?_)
        refine lv_goto (tgt := 39) hx hb dX10_sumOfLine_29 (by decide) ?_
        refine lv_iadd hx hb dX10_sumOfLine_39 ?_
        refine lv_topi (fun x3_10 ex3_10 => ?_)
        replace h := pl_v h ex3_10
        refine lv_istore_n (lv' := [(3, .int x3_10), (0, .ref q_t), (1, .int x1), (2, .int x2), (4, .int x4)]) hx hb dX10_sumOfLine_40 rfl hl (by decide) rfl (fun ls hl => ?_)
        obtain ⟨x4_11, ex4_11, h⟩ := pl_ok h
        refine lv_iinc (v := x4_11) (lv' := [(4, .int x4_11), (3, .int x3_10), (0, .ref q_t), (1, .int x1), (2, .int x2)]) hx hb dX10_sumOfLine_41 hl (k := 4) rfl (by rw [ex4_11]; rfl) (by decide) rfl (fun ls hl => ?_)
        refine lv_goto (tgt := 5) hx hb dX10_sumOfLine_44 (by decide) ?_
        obtain rfl := sm1 h
        exact ih x3_10 x4_11 hk H locs ls hP hD hS (lv_sub hl [2, 3, 4, 1, 0] rfl)
set_option maxHeartbeats 4000000 in
set_option maxRecDepth 100000 in
theorem k_X10_sumOfLine {p : Program} {l : Launch} {e : Env} {s : State} {m : MethodId} {args : Array Value} {below : List Frame} {meth : Method} {c : Code} {Q : State → Prop} {A0 : Nat → Prop} {H0 : Heap} (C : CallFix p m c cX10_sumOfLine 5 s args wsX10_sumOfLine RX10) (G : GT) (hK : gK G s) (hA : ∀ q : Nat, H0.size ≤ q → A0 q) (q_t q_t_z q_t_old q_t_past q_t_kept q_t_text q_t_order q_t_told q_t_rowsTaken q_t_columnsTaken q_t_ways q_t_scaled q_t_rowFactors q_t_columnFactors q_t_rest q_t_diagonals q_t_weights : Nat) (t_states : Int32) (t_isKept : Int32) (t_length : Int32) (t_spot : Int32) (t_toldRows : Int32) (t_z : Nat → Int32) (a1 : Int32) (a2 : Int32) (r : Int32) (h : f_X10_sumOfLine t_z a1 a2 = some r) (KR : ∀ (H : Heap) (locs : List Loc) (ls : Array Slot) (pc : Nat), decode cX10_sumOfLine pc = .ok (.ireturn, 1) → va_P G.1 vwCl [(q_t, .inr (9, [.ref q_t_z, .ref q_t_old, .ref q_t_past, .int t_states, .ref q_t_kept, .int t_isKept, .ref q_t_text, .int t_length, .ref q_t_order, .ref q_t_told, .int t_spot, .int t_toldRows, .ref q_t_rowsTaken, .ref q_t_columnsTaken, .ref q_t_ways, .ref q_t_scaled, .ref q_t_rowFactors, .ref q_t_columnFactors, .ref q_t_rest, .ref q_t_diagonals, .ref q_t_weights])), (q_t_z, .inl (G.2 0, 50, .inl t_z))] H → va_D A0 [(q_t, .inr (9, [.ref q_t_z, .ref q_t_old, .ref q_t_past, .int t_states, .ref q_t_kept, .int t_isKept, .ref q_t_text, .int t_length, .ref q_t_order, .ref q_t_told, .int t_spot, .int t_toldRows, .ref q_t_rowsTaken, .ref q_t_columnsTaken, .ref q_t_ways, .ref q_t_scaled, .ref q_t_rowFactors, .ref q_t_columnFactors, .ref q_t_rest, .ref q_t_diagonals, .ref q_t_weights])), (q_t_z, .inl (G.2 0, 50, .inl t_z))] → va_S A0 H0 H locs → W p l e ({ frames := 1, cells := 0, slots := 0, locals := 22 } : Room) s m args below meth c H locs 0 0 Q (F0 m pc ls [.int r])) : ∀ (H : Heap) (locs : List Loc) (ls : Array Slot), va_P G.1 vwCl [(q_t, .inr (9, [.ref q_t_z, .ref q_t_old, .ref q_t_past, .int t_states, .ref q_t_kept, .int t_isKept, .ref q_t_text, .int t_length, .ref q_t_order, .ref q_t_told, .int t_spot, .int t_toldRows, .ref q_t_rowsTaken, .ref q_t_columnsTaken, .ref q_t_ways, .ref q_t_scaled, .ref q_t_rowFactors, .ref q_t_columnFactors, .ref q_t_rest, .ref q_t_diagonals, .ref q_t_weights])), (q_t_z, .inl (G.2 0, 50, .inl t_z))] H → va_D A0 [(q_t, .inr (9, [.ref q_t_z, .ref q_t_old, .ref q_t_past, .int t_states, .ref q_t_kept, .int t_isKept, .ref q_t_text, .int t_length, .ref q_t_order, .ref q_t_told, .int t_spot, .int t_toldRows, .ref q_t_rowsTaken, .ref q_t_columnsTaken, .ref q_t_ways, .ref q_t_scaled, .ref q_t_rowFactors, .ref q_t_columnFactors, .ref q_t_rest, .ref q_t_diagonals, .ref q_t_weights])), (q_t_z, .inl (G.2 0, 50, .inl t_z))] → va_S A0 H0 H locs → lv_has ls 5 [(0, .ref q_t), (1, .int a1), (2, .int a2)] → W p l e ({ frames := 1, cells := 0, slots := 0, locals := 22 } : Room) s m args below meth c H locs 0 0 Q (F0 m 0 ls []) := by
  obtain ⟨hx, hb, hml, hown, hts⟩ := C
  intro H locs ls hP hD hS hl
  rw [f_X10_sumOfLine] at h
  refine lv_iconst (v := 0) hx hb dX10_sumOfLine_0 (by decide) ?_
  refine lv_istore_n (lv' := [(3, .int (0 : Int32)), (0, .ref q_t), (1, .int a1), (2, .int a2)]) hx hb dX10_sumOfLine_1 rfl hl (by decide) rfl (fun ls hl => ?_)
  refine lv_iconst (v := 0) hx hb dX10_sumOfLine_2 (by decide) ?_
  refine lv_istore (lv' := [(4, .int (0 : Int32)), (3, .int (0 : Int32)), (0, .ref q_t), (1, .int a1), (2, .int a2)]) hx hb dX10_sumOfLine_3 hl (by decide) rfl (fun ls hl => ?_)
  obtain ⟨x3_12, hz_14, h⟩ := bd_ok h
  refine l_X10_sumOfLine_1 ⟨hx, hb, hml, hown, hts⟩ G hK hA q_t q_t_z q_t_old q_t_past q_t_kept q_t_text q_t_order q_t_told q_t_rowsTaken q_t_columnsTaken q_t_ways q_t_scaled q_t_rowFactors q_t_columnFactors q_t_rest q_t_diagonals q_t_weights a1 a2 t_states t_isKept t_length t_spot t_toldRows t_z x3_12 ?_ FU (0 : Int32) (0 : Int32) hz_14 H locs ls hP hD hS (lv_sub hl [2, 3, 4, 1, 0] rfl)
  intro H locs ls hP hD hS hl
  refine lv_iload_n hx hb dX10_sumOfLine_47 rfl (lv_at hl 0 rfl) ?_
  obtain rfl := sm1 h
  exact KR H locs ls 48 dX10_sumOfLine_48 hP hD hS
set_option maxHeartbeats 4000000 in
set_option maxRecDepth 100000 in
theorem c_X10_sumOfLine (l : Launch) (G : GT) (q_t q_t_z q_t_old q_t_past q_t_kept q_t_text q_t_order q_t_told q_t_rowsTaken q_t_columnsTaken q_t_ways q_t_scaled q_t_rowFactors q_t_columnFactors q_t_rest q_t_diagonals q_t_weights : Nat) (sz : Nat) (t_states : Int32) (t_isKept : Int32) (t_length : Int32) (t_spot : Int32) (t_toldRows : Int32) (t_z : Nat → Int32) (a1 : Int32) (a2 : Int32) (r : Int32) (h : f_X10_sumOfLine t_z a1 a2 = some r) : Met l yX10_sumOfLine wsX10_sumOfLine ({ frames := 1, cells := 0, slots := 0, locals := 22 } : Room) (va_Pc [.ref q_t, .int a1, .int a2] (pcW G [(q_t, .inr (9, [.ref q_t_z, .ref q_t_old, .ref q_t_past, .int t_states, .ref q_t_kept, .int t_isKept, .ref q_t_text, .int t_length, .ref q_t_order, .ref q_t_told, .int t_spot, .int t_toldRows, .ref q_t_rowsTaken, .ref q_t_columnsTaken, .ref q_t_ways, .ref q_t_scaled, .ref q_t_rowFactors, .ref q_t_columnFactors, .ref q_t_rest, .ref q_t_diagonals, .ref q_t_weights])), (q_t_z, .inl (G.2 0, 50, .inl t_z))] sz)) (va_Qi (fun r9 (_ : Unit) => r9 = r) (fun _ t => atW G (va_A [(q_t, .inr (9, [.ref q_t_z, .ref q_t_old, .ref q_t_past, .int t_states, .ref q_t_kept, .int t_isKept, .ref q_t_text, .int t_length, .ref q_t_order, .ref q_t_told, .int t_spot, .int t_toldRows, .ref q_t_rowsTaken, .ref q_t_columnsTaken, .ref q_t_ways, .ref q_t_scaled, .ref q_t_rowFactors, .ref q_t_columnFactors, .ref q_t_rest, .ref q_t_diagonals, .ref q_t_weights])), (q_t_z, .inl (G.2 0, 50, .inl t_z))] sz) [(q_t, .inr (9, [.ref q_t_z, .ref q_t_old, .ref q_t_past, .int t_states, .ref q_t_kept, .int t_isKept, .ref q_t_text, .int t_length, .ref q_t_order, .ref q_t_told, .int t_spot, .int t_toldRows, .ref q_t_rowsTaken, .ref q_t_columnsTaken, .ref q_t_ways, .ref q_t_scaled, .ref q_t_rowFactors, .ref q_t_columnFactors, .ref q_t_rest, .ref q_t_diagonals, .ref q_t_weights])), (q_t_z, .inl (G.2 0, 50, .inl t_z))] t) (va_A [(q_t, .inr (9, [.ref q_t_z, .ref q_t_old, .ref q_t_past, .int t_states, .ref q_t_kept, .int t_isKept, .ref q_t_text, .int t_length, .ref q_t_order, .ref q_t_told, .int t_spot, .int t_toldRows, .ref q_t_rowsTaken, .ref q_t_columnsTaken, .ref q_t_ways, .ref q_t_scaled, .ref q_t_rowFactors, .ref q_t_columnFactors, .ref q_t_rest, .ref q_t_diagonals, .ref q_t_weights])), (q_t_z, .inl (G.2 0, 50, .inl t_z))] sz)) 0 0 (va_A [(q_t, .inr (9, [.ref q_t_z, .ref q_t_old, .ref q_t_past, .int t_states, .ref q_t_kept, .int t_isKept, .ref q_t_text, .int t_length, .ref q_t_order, .ref q_t_told, .int t_spot, .int t_toldRows, .ref q_t_rowsTaken, .ref q_t_columnsTaken, .ref q_t_ways, .ref q_t_scaled, .ref q_t_rowFactors, .ref q_t_columnFactors, .ref q_t_rest, .ref q_t_diagonals, .ref q_t_weights])), (q_t_z, .inl (G.2 0, 50, .inl t_z))] sz) := by
  refine Met.ofW (cc := cX10_sumOfLine) (maxL := 5) (ret := (some .int)) (by decide) rfl ?_
  intro p e s m args below meth c s₁ B hml hv
  obtain ⟨rfl, hsz, hP, hK, hD0⟩ := hv
  subst hsz
  have hD := hD0.self (sz := s.heap.size)
  generalize hAe : va_A [(q_t, .inr (9, [.ref q_t_z, .ref q_t_old, .ref q_t_past, .int t_states, .ref q_t_kept, .int t_isKept, .ref q_t_text, .int t_length, .ref q_t_order, .ref q_t_told, .int t_spot, .int t_toldRows, .ref q_t_rowsTaken, .ref q_t_columnsTaken, .ref q_t_ways, .ref q_t_scaled, .ref q_t_rowFactors, .ref q_t_columnFactors, .ref q_t_rest, .ref q_t_diagonals, .ref q_t_weights])), (q_t_z, .inl (G.2 0, 50, .inl t_z))] s.heap.size = A at hD ⊢
  have hA : ∀ q : Nat, s.heap.size ≤ q → A q := fun q h => by rw [← hAe]; exact Or.inr h
  have hl := lv_entry ([.ref q_t, .int a1, .int a2]) (n := 5) (Nat.le_of_ble_eq_true rfl)
  rw [lg_entry_eq]
  refine k_X10_sumOfLine ⟨B.exec, B.bytes, hml, findClass_of_methodNamed B.named, atoms_spec (ws := wsX10_sumOfLine) B.pre⟩ G hK hA q_t q_t_z q_t_old q_t_past q_t_kept q_t_text q_t_order q_t_told q_t_rowsTaken q_t_columnsTaken q_t_ways q_t_scaled q_t_rowFactors q_t_columnFactors q_t_rest q_t_diagonals q_t_weights _ _ _ _ _ _ _ _ _ h ?_ _ _ _ hP hD va_S.rf hl
  intro H locs ls pc hd hP hD hS
  exact W.iret B.exec B.bytes B.returns (fun t ht hW => ⟨⟨r, (), rfl, rfl, by rw [ht]; exact hP, hD⟩, hS.F ht⟩) hS.2.2 hd B.notSynchronized
set_option maxRecDepth 20000 in
theorem wd_X10_extreme_1 : Cond.fieldLink RX10 7 "PermanentDeskModel" "z" "[I" ∈ wsX10_extreme := List.mem_of_getElem? (i := 1) (by decide +kernel)
set_option maxRecDepth 20000 in
theorem wi_X10_extreme_X10 : ∀ w ∈ u_ws RX10 TX10 21, w ∈ wsX10_extreme := by decide +kernel
def f_X10_extreme_L1 (x1 : Int32) (t_z : Nat → Int32) : (Int32 × Int32) → Option ((Int32 × Int32) ⊕ Int32)
  | (x2, x3) =>
    gd (okI (49 : Int32) 50) (
    gd (okI (49 : Int32) 50) (
    if ((t_z (49 : Int32).toNatClampNeg) * (t_z (49 : Int32).toNatClampNeg)) ≤ x3 then
      some (.inr x2)
    else
      gd (okI (49 : Int32) 50) (
      gd (¬ (t_z (49 : Int32).toNatClampNeg) = 0) (
      gd (okI (49 : Int32) 50) (
      gd (¬ (t_z (49 : Int32).toNatClampNeg) = 0) (
      (f_X10_at t_z (x3 / (t_z (49 : Int32).toNatClampNeg)) (x3 - x3 / (t_z (49 : Int32).toNatClampNeg) * (t_z (49 : Int32).toNatClampNeg))).bind (fun r_10 =>
      Option.bind (
        if r_10 ≤ x2 then
          some (0 : Int32)
        else
          some (1 : Int32)) (fun y_13 =>
      if x1 = y_13 then
        pl ((x3 + (1 : Int32)) : Int32) (fun x3_16 =>
        some (.inl (r_10, x3_16)))
      else
        pl ((x3 + (1 : Int32)) : Int32) (fun x3_15 =>
        some (.inl (x2, x3_15)))))))))))
def f_X10_extreme (t_z : Nat → Int32) (a1 : Int32) : Option Int32 :=
  (f_X10_at t_z (0 : Int32) (0 : Int32)).bind (fun r_1 =>
  (lpN (f_X10_extreme_L1 a1 t_z) FU (r_1, (0 : Int32))).bind (fun x2_17 =>
  some x2_17))
set_option maxHeartbeats 4000000 in
set_option maxRecDepth 100000 in
theorem l_X10_extreme_1 {p : Program} {l : Launch} {e : Env} {s : State} {m : MethodId} {args : Array Value} {below : List Frame} {meth : Method} {c : Code} {Q : State → Prop} {A0 : Nat → Prop} {H0 : Heap} (C : CallFix p m c cX10_extreme 5 s args wsX10_extreme RX10) (G : GT) (hK : gK G s) (hA : ∀ q : Nat, H0.size ≤ q → A0 q) (q_t q_t_z q_t_old q_t_past q_t_kept q_t_text q_t_order q_t_told q_t_rowsTaken q_t_columnsTaken q_t_ways q_t_scaled q_t_rowFactors q_t_columnFactors q_t_rest q_t_diagonals q_t_weights : Nat) (x1 : Int32) (t_states : Int32) (t_isKept : Int32) (t_length : Int32) (t_spot : Int32) (t_toldRows : Int32) (t_z : Nat → Int32) (E_x2 : Int32) (K : ∀ (H : Heap) (locs : List Loc) (ls : Array Slot), va_P G.1 vwCl [(q_t, .inr (9, [.ref q_t_z, .ref q_t_old, .ref q_t_past, .int t_states, .ref q_t_kept, .int t_isKept, .ref q_t_text, .int t_length, .ref q_t_order, .ref q_t_told, .int t_spot, .int t_toldRows, .ref q_t_rowsTaken, .ref q_t_columnsTaken, .ref q_t_ways, .ref q_t_scaled, .ref q_t_rowFactors, .ref q_t_columnFactors, .ref q_t_rest, .ref q_t_diagonals, .ref q_t_weights])), (q_t_z, .inl (G.2 0, 50, .inl t_z))] H → va_D A0 [(q_t, .inr (9, [.ref q_t_z, .ref q_t_old, .ref q_t_past, .int t_states, .ref q_t_kept, .int t_isKept, .ref q_t_text, .int t_length, .ref q_t_order, .ref q_t_told, .int t_spot, .int t_toldRows, .ref q_t_rowsTaken, .ref q_t_columnsTaken, .ref q_t_ways, .ref q_t_scaled, .ref q_t_rowFactors, .ref q_t_columnFactors, .ref q_t_rest, .ref q_t_diagonals, .ref q_t_weights])), (q_t_z, .inl (G.2 0, 50, .inl t_z))] → va_S A0 H0 H locs → lv_has ls 5 [(2, .int E_x2)] → W p l e ({ frames := 1, cells := 0, slots := 0, locals := 22 } : Room) s m args below meth c H locs 0 0 Q (F0 m 80 ls [])) : ∀ (n : Nat) (x2 : Int32) (x3 : Int32), lpN (f_X10_extreme_L1 x1 t_z) n (x2, x3) = some E_x2 → ∀ (H : Heap) (locs : List Loc) (ls : Array Slot), va_P G.1 vwCl [(q_t, .inr (9, [.ref q_t_z, .ref q_t_old, .ref q_t_past, .int t_states, .ref q_t_kept, .int t_isKept, .ref q_t_text, .int t_length, .ref q_t_order, .ref q_t_told, .int t_spot, .int t_toldRows, .ref q_t_rowsTaken, .ref q_t_columnsTaken, .ref q_t_ways, .ref q_t_scaled, .ref q_t_rowFactors, .ref q_t_columnFactors, .ref q_t_rest, .ref q_t_diagonals, .ref q_t_weights])), (q_t_z, .inl (G.2 0, 50, .inl t_z))] H → va_D A0 [(q_t, .inr (9, [.ref q_t_z, .ref q_t_old, .ref q_t_past, .int t_states, .ref q_t_kept, .int t_isKept, .ref q_t_text, .int t_length, .ref q_t_order, .ref q_t_told, .int t_spot, .int t_toldRows, .ref q_t_rowsTaken, .ref q_t_columnsTaken, .ref q_t_ways, .ref q_t_scaled, .ref q_t_rowFactors, .ref q_t_columnFactors, .ref q_t_rest, .ref q_t_diagonals, .ref q_t_weights])), (q_t_z, .inl (G.2 0, 50, .inl t_z))] → va_S A0 H0 H locs → lv_has ls 5 [(0, .ref q_t), (1, .int x1), (2, .int x2), (3, .int x3)] → W p l e ({ frames := 1, cells := 0, slots := 0, locals := 22 } : Room) s m args below meth c H locs 0 0 Q (F0 m 9 ls []) := by
  obtain ⟨hx, hb, hml, hown, hts⟩ := C
  intro n
  induction n with
  | zero => intro x2 x3 h; exact absurd h (fun h => lp_0 h)
  | succ n ih =>
    intro x2 x3 h H locs ls hP hD hS hl
    obtain ⟨y, h, hk⟩ := lp_s h
    rw [f_X10_extreme_L1] at h
    refine lv_iload_n hx hb dX10_extreme_9 rfl (lv_at hl 3 rfl) ?_
    refine lv_aload_n hx hb dX10_extreme_10 rfl (lv_at hl 0 rfl) ?_
    refine va_get (D := G.1) (ci := 9) (v := .ref q_t_z) (C := RX10) (T := TX10) (N := 21) hx hb hts wi_X10_extreme_X10 hown hK hP 0 rfl rfl 0 (by decide) (hts _ wd_X10_extreme_1) (fun _ h9 => h9) rfl dX10_extreme_11 ?_
    refine lv_bipush (v := 49) hx hb dX10_extreme_14 (by decide) ?_
    obtain ⟨g_3, h⟩ := gd_ok h
    refine va_iald (D := G.1) hx hb hK hP 1 0 rfl rfl g_3 dX10_extreme_16 ?_
    refine lv_aload_n hx hb dX10_extreme_17 rfl (lv_at hl 0 rfl) ?_
    refine va_get (D := G.1) (ci := 9) (v := .ref q_t_z) (C := RX10) (T := TX10) (N := 21) hx hb hts wi_X10_extreme_X10 hown hK hP 0 rfl rfl 0 (by decide) (hts _ wd_X10_extreme_1) (fun _ h9 => h9) rfl dX10_extreme_18 ?_
    refine lv_bipush (v := 49) hx hb dX10_extreme_21 (by decide) ?_
    obtain ⟨g_4, h⟩ := gd_ok h
    refine va_iald (D := G.1) hx hb hK hP 1 0 rfl rfl g_4 dX10_extreme_23 ?_
    refine lv_imul hx hb dX10_extreme_24 ?_
    refine lv_icmp_ge (tgt := 80) hx hb dX10_extreme_25 (by decide) (fun c_5 => ?_) (fun c_5 => ?_)
    · replace h := it_t h c_5
      obtain rfl := sm1 h
      obtain rfl := sm1 hk
      exact K H locs ls hP hD hS (lv_sub hl [2] rfl)
    · replace h := it_f h c_5
      refine lv_aload_n hx hb dX10_extreme_28 rfl (lv_at hl 0 rfl) ?_
      refine lv_iload_n hx hb dX10_extreme_29 rfl (lv_at hl 3 rfl) ?_
      refine lv_aload_n hx hb dX10_extreme_30 rfl (lv_at hl 0 rfl) ?_
      refine va_get (D := G.1) (ci := 9) (v := .ref q_t_z) (C := RX10) (T := TX10) (N := 21) hx hb hts wi_X10_extreme_X10 hown hK hP 0 rfl rfl 0 (by decide) (hts _ wd_X10_extreme_1) (fun _ h9 => h9) rfl dX10_extreme_31 ?_
      refine lv_bipush (v := 49) hx hb dX10_extreme_34 (by decide) ?_
      obtain ⟨g_6, h⟩ := gd_ok h
      refine va_iald (D := G.1) hx hb hK hP 1 0 rfl rfl g_6 dX10_extreme_36 ?_
      obtain ⟨g_7, h⟩ := gd_ok h
      refine lv_idiv hx hb dX10_extreme_37 g_7 ?_
      refine lv_iload_n hx hb dX10_extreme_38 rfl (lv_at hl 3 rfl) ?_
      refine lv_aload_n hx hb dX10_extreme_39 rfl (lv_at hl 0 rfl) ?_
      refine va_get (D := G.1) (ci := 9) (v := .ref q_t_z) (C := RX10) (T := TX10) (N := 21) hx hb hts wi_X10_extreme_X10 hown hK hP 0 rfl rfl 0 (by decide) (hts _ wd_X10_extreme_1) (fun _ h9 => h9) rfl dX10_extreme_40 ?_
      refine lv_bipush (v := 49) hx hb dX10_extreme_43 (by decide) ?_
      obtain ⟨g_8, h⟩ := gd_ok h
      refine va_iald (D := G.1) hx hb hK hP 1 0 rfl rfl g_8 dX10_extreme_45 ?_
      obtain ⟨g_9, h⟩ := gd_ok h
      refine lv_irem hx hb dX10_extreme_46 g_9 ?_
      obtain ⟨r_10, hf_11, h⟩ := bd_ok h
      refine ck_Vi (rest := []) (wn := [(q_t, .inr (9, [.ref q_t_z, .ref q_t_old, .ref q_t_past, .int t_states, .ref q_t_kept, .int t_isKept, .ref q_t_text, .int t_length, .ref q_t_order, .ref q_t_told, .int t_spot, .int t_toldRows, .ref q_t_rowsTaken, .ref q_t_columnsTaken, .ref q_t_ways, .ref q_t_scaled, .ref q_t_rowFactors, .ref q_t_columnFactors, .ref q_t_rest, .ref q_t_diagonals, .ref q_t_weights])), (q_t_z, .inl (G.2 0, 50, .inl t_z))]) ⟨hx, hb, hml, hown, hts⟩ hK hP hD hS hA [0, 1] [] [0, 1] (c_X10_at l G q_t q_t_z q_t_old q_t_past q_t_kept q_t_text q_t_order q_t_told q_t_rowsTaken q_t_columnsTaken q_t_ways q_t_scaled q_t_rowFactors q_t_columnFactors q_t_rest q_t_diagonals q_t_weights _ t_states t_isKept t_length t_spot t_toldRows t_z (x3 / (t_z (49 : Int32).toNatClampNeg)) (x3 - x3 / (t_z (49 : Int32).toNatClampNeg) * (t_z (49 : Int32).toNatClampNeg)) _ hf_11) (cwV 2 hts gX10_extreme_X10_at rfl rfl rfl (by decide +kernel) ⟨Nat.le_of_ble_eq_true rfl, Nat.le_of_ble_eq_true rfl⟩) rfl rfl rfl rfl rfl rfl (by decide) rfl rfl rfl hl.1 rfl (Nat.le_of_ble_eq_true rfl) dX10_extreme_47 ⟨Nat.zero_le _, Nat.zero_le _⟩ (fun H locs hP hD hS => ?_)
      refine lv_istore (lv' := [(4, .int r_10), (0, .ref q_t), (1, .int x1), (2, .int x2), (3, .int x3)]) hx hb dX10_extreme_50 hl (by decide) rfl (fun ls hl => ?_)
      refine lv_iload_n hx hb dX10_extreme_52 rfl (lv_at hl 2 rfl) ?_
      refine lv_iload hx hb dX10_extreme_53 (lv_at hl 0 rfl) ?_
      refine lv_iload_n hx hb dX10_extreme_55 rfl (lv_at hl 3 rfl) ?_
      obtain ⟨y_13, hr, h⟩ := bd_ok h
      have J : ∀ (H : Heap) (locs : List Loc) (ls : Array Slot), va_P G.1 vwCl [(q_t, .inr (9, [.ref q_t_z, .ref q_t_old, .ref q_t_past, .int t_states, .ref q_t_kept, .int t_isKept, .ref q_t_text, .int t_length, .ref q_t_order, .ref q_t_told, .int t_spot, .int t_toldRows, .ref q_t_rowsTaken, .ref q_t_columnsTaken, .ref q_t_ways, .ref q_t_scaled, .ref q_t_rowFactors, .ref q_t_columnFactors, .ref q_t_rest, .ref q_t_diagonals, .ref q_t_weights])), (q_t_z, .inl (G.2 0, 50, .inl t_z))] H → va_D A0 [(q_t, .inr (9, [.ref q_t_z, .ref q_t_old, .ref q_t_past, .int t_states, .ref q_t_kept, .int t_isKept, .ref q_t_text, .int t_length, .ref q_t_order, .ref q_t_told, .int t_spot, .int t_toldRows, .ref q_t_rowsTaken, .ref q_t_columnsTaken, .ref q_t_ways, .ref q_t_scaled, .ref q_t_rowFactors, .ref q_t_columnFactors, .ref q_t_rest, .ref q_t_diagonals, .ref q_t_weights])), (q_t_z, .inl (G.2 0, 50, .inl t_z))] → va_S A0 H0 H locs → lv_has ls 5 [(0, .ref q_t), (1, .int x1), (2, .int x2), (3, .int x3), (4, .int r_10)] → W p l e ({ frames := 1, cells := 0, slots := 0, locals := 22 } : Room) s m args below meth c H locs 0 0 Q (F0 m 64 ls [.int y_13, .int x1]) := by
        intro H locs ls hP hD hS hl
        refine lv_icmp_ne (tgt := 72) hx hb dX10_extreme_64 (by decide) (fun c_14 => ?_) (fun c_14 => ?_)
        · replace h := it_f h c_14
          refine lv_iload_n hx hb dX10_extreme_72 rfl (lv_at hl 2 rfl) ?_
          refine lv_istore_n (lv' := [(2, .int x2), (0, .ref q_t), (1, .int x1), (3, .int x3), (4, .int r_10)]) hx hb dX10_extreme_73 rfl hl (by decide) rfl (fun ls hl => ?_)
          obtain ⟨x3_15, ex3_15, h⟩ := pl_ok h
          refine lv_iinc (v := x3_15) (lv' := [(3, .int x3_15), (2, .int x2), (0, .ref q_t), (1, .int x1), (4, .int r_10)]) hx hb dX10_extreme_74 hl (k := 3) rfl (by rw [ex3_15]; rfl) (by decide) rfl (fun ls hl => ?_)
          refine lv_goto (tgt := 9) hx hb dX10_extreme_77 (by decide) ?_
          obtain rfl := sm1 h
          exact ih x2 x3_15 hk H locs ls hP hD hS (lv_sub hl [2, 3, 1, 0] rfl)
        · replace h := it_t h c_14
          refine lv_iload hx hb dX10_extreme_67 (lv_at hl 4 rfl) ?_
          refine lv_goto (tgt := 73) hx hb dX10_extreme_69 (by decide) ?_
          refine lv_istore_n (lv' := [(2, .int r_10), (0, .ref q_t), (1, .int x1), (3, .int x3), (4, .int r_10)]) hx hb dX10_extreme_73 rfl hl (by decide) rfl (fun ls hl => ?_)
          obtain ⟨x3_16, ex3_16, h⟩ := pl_ok h
          refine lv_iinc (v := x3_16) (lv' := [(3, .int x3_16), (2, .int r_10), (0, .ref q_t), (1, .int x1), (4, .int r_10)]) hx hb dX10_extreme_74 hl (k := 3) rfl (by rw [ex3_16]; rfl) (by decide) rfl (fun ls hl => ?_)
          refine lv_goto (tgt := 9) hx hb dX10_extreme_77 (by decide) ?_
          obtain rfl := sm1 h
          exact ih r_10 x3_16 hk H locs ls hP hD hS (lv_sub hl [2, 3, 1, 0] rfl)
      replace h := hr
      clear hr
      refine lv_icmp_le (tgt := 63) hx hb dX10_extreme_56 (by decide) (fun c_12 => ?_) (fun c_12 => ?_)
      · replace h := it_t h c_12
        refine lv_iconst (v := 0) hx hb dX10_extreme_63 (by decide) ?_
        obtain rfl := sm1 h
        exact J H locs ls hP hD hS (lv_sub hl [1, 2, 3, 4, 0] rfl)
      · replace h := it_f h c_12
        refine lv_iconst (v := 1) hx hb dX10_extreme_59 (by decide) ?_
        refine lv_goto (tgt := 64) hx hb dX10_extreme_60 (by decide) ?_
        obtain rfl := sm1 h
        exact J H locs ls hP hD hS (lv_sub hl [1, 2, 3, 4, 0] rfl)
set_option maxHeartbeats 4000000 in
set_option maxRecDepth 100000 in
theorem k_X10_extreme {p : Program} {l : Launch} {e : Env} {s : State} {m : MethodId} {args : Array Value} {below : List Frame} {meth : Method} {c : Code} {Q : State → Prop} {A0 : Nat → Prop} {H0 : Heap} (C : CallFix p m c cX10_extreme 5 s args wsX10_extreme RX10) (G : GT) (hK : gK G s) (hA : ∀ q : Nat, H0.size ≤ q → A0 q) (q_t q_t_z q_t_old q_t_past q_t_kept q_t_text q_t_order q_t_told q_t_rowsTaken q_t_columnsTaken q_t_ways q_t_scaled q_t_rowFactors q_t_columnFactors q_t_rest q_t_diagonals q_t_weights : Nat) (t_states : Int32) (t_isKept : Int32) (t_length : Int32) (t_spot : Int32) (t_toldRows : Int32) (t_z : Nat → Int32) (a1 : Int32) (r : Int32) (h : f_X10_extreme t_z a1 = some r) (KR : ∀ (H : Heap) (locs : List Loc) (ls : Array Slot) (pc : Nat), decode cX10_extreme pc = .ok (.ireturn, 1) → va_P G.1 vwCl [(q_t, .inr (9, [.ref q_t_z, .ref q_t_old, .ref q_t_past, .int t_states, .ref q_t_kept, .int t_isKept, .ref q_t_text, .int t_length, .ref q_t_order, .ref q_t_told, .int t_spot, .int t_toldRows, .ref q_t_rowsTaken, .ref q_t_columnsTaken, .ref q_t_ways, .ref q_t_scaled, .ref q_t_rowFactors, .ref q_t_columnFactors, .ref q_t_rest, .ref q_t_diagonals, .ref q_t_weights])), (q_t_z, .inl (G.2 0, 50, .inl t_z))] H → va_D A0 [(q_t, .inr (9, [.ref q_t_z, .ref q_t_old, .ref q_t_past, .int t_states, .ref q_t_kept, .int t_isKept, .ref q_t_text, .int t_length, .ref q_t_order, .ref q_t_told, .int t_spot, .int t_toldRows, .ref q_t_rowsTaken, .ref q_t_columnsTaken, .ref q_t_ways, .ref q_t_scaled, .ref q_t_rowFactors, .ref q_t_columnFactors, .ref q_t_rest, .ref q_t_diagonals, .ref q_t_weights])), (q_t_z, .inl (G.2 0, 50, .inl t_z))] → va_S A0 H0 H locs → W p l e ({ frames := 1, cells := 0, slots := 0, locals := 22 } : Room) s m args below meth c H locs 0 0 Q (F0 m pc ls [.int r])) : ∀ (H : Heap) (locs : List Loc) (ls : Array Slot), va_P G.1 vwCl [(q_t, .inr (9, [.ref q_t_z, .ref q_t_old, .ref q_t_past, .int t_states, .ref q_t_kept, .int t_isKept, .ref q_t_text, .int t_length, .ref q_t_order, .ref q_t_told, .int t_spot, .int t_toldRows, .ref q_t_rowsTaken, .ref q_t_columnsTaken, .ref q_t_ways, .ref q_t_scaled, .ref q_t_rowFactors, .ref q_t_columnFactors, .ref q_t_rest, .ref q_t_diagonals, .ref q_t_weights])), (q_t_z, .inl (G.2 0, 50, .inl t_z))] H → va_D A0 [(q_t, .inr (9, [.ref q_t_z, .ref q_t_old, .ref q_t_past, .int t_states, .ref q_t_kept, .int t_isKept, .ref q_t_text, .int t_length, .ref q_t_order, .ref q_t_told, .int t_spot, .int t_toldRows, .ref q_t_rowsTaken, .ref q_t_columnsTaken, .ref q_t_ways, .ref q_t_scaled, .ref q_t_rowFactors, .ref q_t_columnFactors, .ref q_t_rest, .ref q_t_diagonals, .ref q_t_weights])), (q_t_z, .inl (G.2 0, 50, .inl t_z))] → va_S A0 H0 H locs → lv_has ls 5 [(0, .ref q_t), (1, .int a1)] → W p l e ({ frames := 1, cells := 0, slots := 0, locals := 22 } : Room) s m args below meth c H locs 0 0 Q (F0 m 0 ls []) := by
  obtain ⟨hx, hb, hml, hown, hts⟩ := C
  intro H locs ls hP hD hS hl
  rw [f_X10_extreme] at h
  refine lv_aload_n hx hb dX10_extreme_0 rfl (lv_at hl 0 rfl) ?_
  refine lv_iconst (v := 0) hx hb dX10_extreme_1 (by decide) ?_
  refine lv_iconst (v := 0) hx hb dX10_extreme_2 (by decide) ?_
  obtain ⟨r_1, hf_2, h⟩ := bd_ok h
  refine ck_Vi (rest := []) (wn := [(q_t, .inr (9, [.ref q_t_z, .ref q_t_old, .ref q_t_past, .int t_states, .ref q_t_kept, .int t_isKept, .ref q_t_text, .int t_length, .ref q_t_order, .ref q_t_told, .int t_spot, .int t_toldRows, .ref q_t_rowsTaken, .ref q_t_columnsTaken, .ref q_t_ways, .ref q_t_scaled, .ref q_t_rowFactors, .ref q_t_columnFactors, .ref q_t_rest, .ref q_t_diagonals, .ref q_t_weights])), (q_t_z, .inl (G.2 0, 50, .inl t_z))]) ⟨hx, hb, hml, hown, hts⟩ hK hP hD hS hA [0, 1] [] [0, 1] (c_X10_at l G q_t q_t_z q_t_old q_t_past q_t_kept q_t_text q_t_order q_t_told q_t_rowsTaken q_t_columnsTaken q_t_ways q_t_scaled q_t_rowFactors q_t_columnFactors q_t_rest q_t_diagonals q_t_weights _ t_states t_isKept t_length t_spot t_toldRows t_z (0 : Int32) (0 : Int32) _ hf_2) (cwV 2 hts gX10_extreme_X10_at rfl rfl rfl (by decide +kernel) ⟨Nat.le_of_ble_eq_true rfl, Nat.le_of_ble_eq_true rfl⟩) rfl rfl rfl rfl rfl rfl (by decide) rfl rfl rfl hl.1 rfl (Nat.le_of_ble_eq_true rfl) dX10_extreme_3 ⟨Nat.zero_le _, Nat.zero_le _⟩ (fun H locs hP hD hS => ?_)
  refine lv_istore_n (lv' := [(2, .int r_1), (0, .ref q_t), (1, .int a1)]) hx hb dX10_extreme_6 rfl hl (by decide) rfl (fun ls hl => ?_)
  refine lv_iconst (v := 0) hx hb dX10_extreme_7 (by decide) ?_
  refine lv_istore_n (lv' := [(3, .int (0 : Int32)), (2, .int r_1), (0, .ref q_t), (1, .int a1)]) hx hb dX10_extreme_8 rfl hl (by decide) rfl (fun ls hl => ?_)
  obtain ⟨x2_17, hz_19, h⟩ := bd_ok h
  refine l_X10_extreme_1 ⟨hx, hb, hml, hown, hts⟩ G hK hA q_t q_t_z q_t_old q_t_past q_t_kept q_t_text q_t_order q_t_told q_t_rowsTaken q_t_columnsTaken q_t_ways q_t_scaled q_t_rowFactors q_t_columnFactors q_t_rest q_t_diagonals q_t_weights a1 t_states t_isKept t_length t_spot t_toldRows t_z x2_17 ?_ FU r_1 (0 : Int32) hz_19 H locs ls hP hD hS (lv_sub hl [2, 3, 1, 0] rfl)
  intro H locs ls hP hD hS hl
  refine lv_iload_n hx hb dX10_extreme_80 rfl (lv_at hl 0 rfl) ?_
  obtain rfl := sm1 h
  exact KR H locs ls 81 dX10_extreme_81 hP hD hS
set_option maxHeartbeats 4000000 in
set_option maxRecDepth 100000 in
theorem c_X10_extreme (l : Launch) (G : GT) (q_t q_t_z q_t_old q_t_past q_t_kept q_t_text q_t_order q_t_told q_t_rowsTaken q_t_columnsTaken q_t_ways q_t_scaled q_t_rowFactors q_t_columnFactors q_t_rest q_t_diagonals q_t_weights : Nat) (sz : Nat) (t_states : Int32) (t_isKept : Int32) (t_length : Int32) (t_spot : Int32) (t_toldRows : Int32) (t_z : Nat → Int32) (a1 : Int32) (r : Int32) (h : f_X10_extreme t_z a1 = some r) : Met l yX10_extreme wsX10_extreme ({ frames := 1, cells := 0, slots := 0, locals := 22 } : Room) (va_Pc [.ref q_t, .int a1] (pcW G [(q_t, .inr (9, [.ref q_t_z, .ref q_t_old, .ref q_t_past, .int t_states, .ref q_t_kept, .int t_isKept, .ref q_t_text, .int t_length, .ref q_t_order, .ref q_t_told, .int t_spot, .int t_toldRows, .ref q_t_rowsTaken, .ref q_t_columnsTaken, .ref q_t_ways, .ref q_t_scaled, .ref q_t_rowFactors, .ref q_t_columnFactors, .ref q_t_rest, .ref q_t_diagonals, .ref q_t_weights])), (q_t_z, .inl (G.2 0, 50, .inl t_z))] sz)) (va_Qi (fun r9 (_ : Unit) => r9 = r) (fun _ t => atW G (va_A [(q_t, .inr (9, [.ref q_t_z, .ref q_t_old, .ref q_t_past, .int t_states, .ref q_t_kept, .int t_isKept, .ref q_t_text, .int t_length, .ref q_t_order, .ref q_t_told, .int t_spot, .int t_toldRows, .ref q_t_rowsTaken, .ref q_t_columnsTaken, .ref q_t_ways, .ref q_t_scaled, .ref q_t_rowFactors, .ref q_t_columnFactors, .ref q_t_rest, .ref q_t_diagonals, .ref q_t_weights])), (q_t_z, .inl (G.2 0, 50, .inl t_z))] sz) [(q_t, .inr (9, [.ref q_t_z, .ref q_t_old, .ref q_t_past, .int t_states, .ref q_t_kept, .int t_isKept, .ref q_t_text, .int t_length, .ref q_t_order, .ref q_t_told, .int t_spot, .int t_toldRows, .ref q_t_rowsTaken, .ref q_t_columnsTaken, .ref q_t_ways, .ref q_t_scaled, .ref q_t_rowFactors, .ref q_t_columnFactors, .ref q_t_rest, .ref q_t_diagonals, .ref q_t_weights])), (q_t_z, .inl (G.2 0, 50, .inl t_z))] t) (va_A [(q_t, .inr (9, [.ref q_t_z, .ref q_t_old, .ref q_t_past, .int t_states, .ref q_t_kept, .int t_isKept, .ref q_t_text, .int t_length, .ref q_t_order, .ref q_t_told, .int t_spot, .int t_toldRows, .ref q_t_rowsTaken, .ref q_t_columnsTaken, .ref q_t_ways, .ref q_t_scaled, .ref q_t_rowFactors, .ref q_t_columnFactors, .ref q_t_rest, .ref q_t_diagonals, .ref q_t_weights])), (q_t_z, .inl (G.2 0, 50, .inl t_z))] sz)) 0 0 (va_A [(q_t, .inr (9, [.ref q_t_z, .ref q_t_old, .ref q_t_past, .int t_states, .ref q_t_kept, .int t_isKept, .ref q_t_text, .int t_length, .ref q_t_order, .ref q_t_told, .int t_spot, .int t_toldRows, .ref q_t_rowsTaken, .ref q_t_columnsTaken, .ref q_t_ways, .ref q_t_scaled, .ref q_t_rowFactors, .ref q_t_columnFactors, .ref q_t_rest, .ref q_t_diagonals, .ref q_t_weights])), (q_t_z, .inl (G.2 0, 50, .inl t_z))] sz) := by
  refine Met.ofW (cc := cX10_extreme) (maxL := 5) (ret := (some .int)) (by decide) rfl ?_
  intro p e s m args below meth c s₁ B hml hv
  obtain ⟨rfl, hsz, hP, hK, hD0⟩ := hv
  subst hsz
  have hD := hD0.self (sz := s.heap.size)
  generalize hAe : va_A [(q_t, .inr (9, [.ref q_t_z, .ref q_t_old, .ref q_t_past, .int t_states, .ref q_t_kept, .int t_isKept, .ref q_t_text, .int t_length, .ref q_t_order, .ref q_t_told, .int t_spot, .int t_toldRows, .ref q_t_rowsTaken, .ref q_t_columnsTaken, .ref q_t_ways, .ref q_t_scaled, .ref q_t_rowFactors, .ref q_t_columnFactors, .ref q_t_rest, .ref q_t_diagonals, .ref q_t_weights])), (q_t_z, .inl (G.2 0, 50, .inl t_z))] s.heap.size = A at hD ⊢
  have hA : ∀ q : Nat, s.heap.size ≤ q → A q := fun q h => by rw [← hAe]; exact Or.inr h
  have hl := lv_entry ([.ref q_t, .int a1]) (n := 5) (Nat.le_of_ble_eq_true rfl)
  rw [lg_entry_eq]
  refine k_X10_extreme ⟨B.exec, B.bytes, hml, findClass_of_methodNamed B.named, atoms_spec (ws := wsX10_extreme) B.pre⟩ G hK hA q_t q_t_z q_t_old q_t_past q_t_kept q_t_text q_t_order q_t_told q_t_rowsTaken q_t_columnsTaken q_t_ways q_t_scaled q_t_rowFactors q_t_columnFactors q_t_rest q_t_diagonals q_t_weights _ _ _ _ _ _ _ _ h ?_ _ _ _ hP hD va_S.rf hl
  intro H locs ls pc hd hP hD hS
  exact W.iret B.exec B.bytes B.returns (fun t ht hW => ⟨⟨r, (), rfl, rfl, by rw [ht]; exact hP, hD⟩, hS.F ht⟩) hS.2.2 hd B.notSynchronized
set_option maxRecDepth 20000 in
theorem wd_X10_isSymmetric_1 : Cond.fieldLink RX10 7 "PermanentDeskModel" "z" "[I" ∈ wsX10_isSymmetric := List.mem_of_getElem? (i := 1) (by decide +kernel)
set_option maxRecDepth 20000 in
theorem wi_X10_isSymmetric_X10 : ∀ w ∈ u_ws RX10 TX10 21, w ∈ wsX10_isSymmetric := by decide +kernel
def f_X10_isSymmetric_L1 (t_z : Nat → Int32) : (Int32 × Int32) → Option ((Int32 × Int32) ⊕ Int32)
  | (x1, x2) =>
    if (49 : Int32) ≤ x2 then
      some (.inr x1)
    else
      if x1 = 0 then
        pl ((x2 + (1 : Int32)) : Int32) (fun x2_3 =>
        some (.inl ((0 : Int32), x2_3)))
      else
        gd (okI x2 50) (
        gd (okI (((x2 - x2 / (7 : Int32) * (7 : Int32)) * (7 : Int32)) + (x2 / (7 : Int32))) 50) (
        if (t_z x2.toNatClampNeg) = (t_z (((x2 - x2 / (7 : Int32) * (7 : Int32)) * (7 : Int32)) + (x2 / (7 : Int32))).toNatClampNeg) then
          pl ((x2 + (1 : Int32)) : Int32) (fun x2_8 =>
          some (.inl ((1 : Int32), x2_8)))
        else
          pl ((x2 + (1 : Int32)) : Int32) (fun x2_7 =>
          some (.inl ((0 : Int32), x2_7)))))
def f_X10_isSymmetric (t_z : Nat → Int32) : Option Int32 :=
  (lpN (f_X10_isSymmetric_L1 t_z) FU ((1 : Int32), (0 : Int32))).bind (fun x1_9 =>
  gd (x1_9 = 0 ∨ x1_9 = 1) (
  some x1_9))
set_option maxHeartbeats 4000000 in
set_option maxRecDepth 100000 in
theorem l_X10_isSymmetric_1 {p : Program} {l : Launch} {e : Env} {s : State} {m : MethodId} {args : Array Value} {below : List Frame} {meth : Method} {c : Code} {Q : State → Prop} {A0 : Nat → Prop} {H0 : Heap} (C : CallFix p m c cX10_isSymmetric 3 s args wsX10_isSymmetric RX10) (G : GT) (hK : gK G s) (hA : ∀ q : Nat, H0.size ≤ q → A0 q) (q_t q_t_z q_t_old q_t_past q_t_kept q_t_text q_t_order q_t_told q_t_rowsTaken q_t_columnsTaken q_t_ways q_t_scaled q_t_rowFactors q_t_columnFactors q_t_rest q_t_diagonals q_t_weights : Nat) (t_states : Int32) (t_isKept : Int32) (t_length : Int32) (t_spot : Int32) (t_toldRows : Int32) (t_z : Nat → Int32) (E_x1 : Int32) (K : ∀ (H : Heap) (locs : List Loc) (ls : Array Slot), va_P G.1 vwCl [(q_t, .inr (9, [.ref q_t_z, .ref q_t_old, .ref q_t_past, .int t_states, .ref q_t_kept, .int t_isKept, .ref q_t_text, .int t_length, .ref q_t_order, .ref q_t_told, .int t_spot, .int t_toldRows, .ref q_t_rowsTaken, .ref q_t_columnsTaken, .ref q_t_ways, .ref q_t_scaled, .ref q_t_rowFactors, .ref q_t_columnFactors, .ref q_t_rest, .ref q_t_diagonals, .ref q_t_weights])), (q_t_z, .inl (G.2 0, 50, .inl t_z))] H → va_D A0 [(q_t, .inr (9, [.ref q_t_z, .ref q_t_old, .ref q_t_past, .int t_states, .ref q_t_kept, .int t_isKept, .ref q_t_text, .int t_length, .ref q_t_order, .ref q_t_told, .int t_spot, .int t_toldRows, .ref q_t_rowsTaken, .ref q_t_columnsTaken, .ref q_t_ways, .ref q_t_scaled, .ref q_t_rowFactors, .ref q_t_columnFactors, .ref q_t_rest, .ref q_t_diagonals, .ref q_t_weights])), (q_t_z, .inl (G.2 0, 50, .inl t_z))] → va_S A0 H0 H locs → lv_has ls 3 [(1, .int E_x1)] → W p l e ({ frames := 0, cells := 0, slots := 0, locals := 0 } : Room) s m args below meth c H locs 0 0 Q (F0 m 52 ls [])) : ∀ (n : Nat) (x1 : Int32) (x2 : Int32), lpN (f_X10_isSymmetric_L1 t_z) n (x1, x2) = some E_x1 → ∀ (H : Heap) (locs : List Loc) (ls : Array Slot), va_P G.1 vwCl [(q_t, .inr (9, [.ref q_t_z, .ref q_t_old, .ref q_t_past, .int t_states, .ref q_t_kept, .int t_isKept, .ref q_t_text, .int t_length, .ref q_t_order, .ref q_t_told, .int t_spot, .int t_toldRows, .ref q_t_rowsTaken, .ref q_t_columnsTaken, .ref q_t_ways, .ref q_t_scaled, .ref q_t_rowFactors, .ref q_t_columnFactors, .ref q_t_rest, .ref q_t_diagonals, .ref q_t_weights])), (q_t_z, .inl (G.2 0, 50, .inl t_z))] H → va_D A0 [(q_t, .inr (9, [.ref q_t_z, .ref q_t_old, .ref q_t_past, .int t_states, .ref q_t_kept, .int t_isKept, .ref q_t_text, .int t_length, .ref q_t_order, .ref q_t_told, .int t_spot, .int t_toldRows, .ref q_t_rowsTaken, .ref q_t_columnsTaken, .ref q_t_ways, .ref q_t_scaled, .ref q_t_rowFactors, .ref q_t_columnFactors, .ref q_t_rest, .ref q_t_diagonals, .ref q_t_weights])), (q_t_z, .inl (G.2 0, 50, .inl t_z))] → va_S A0 H0 H locs → lv_has ls 3 [(0, .ref q_t), (1, .int x1), (2, .int x2)] → W p l e ({ frames := 0, cells := 0, slots := 0, locals := 0 } : Room) s m args below meth c H locs 0 0 Q (F0 m 4 ls []) := by
  obtain ⟨hx, hb, hml, hown, hts⟩ := C
  intro n
  induction n with
  | zero => intro x1 x2 h; exact absurd h (fun h => lp_0 h)
  | succ n ih =>
    intro x1 x2 h H locs ls hP hD hS hl
    obtain ⟨y, h, hk⟩ := lp_s h
    rw [f_X10_isSymmetric_L1] at h
    refine lv_iload_n hx hb dX10_isSymmetric_4 rfl (lv_at hl 2 rfl) ?_
    refine lv_bipush (v := 49) hx hb dX10_isSymmetric_5 (by decide) ?_
    refine lv_icmp_ge (tgt := 52) hx hb dX10_isSymmetric_7 (by decide) (fun c_1 => ?_) (fun c_1 => ?_)
    · replace h := it_t h c_1
      obtain rfl := sm1 h
      obtain rfl := sm1 hk
      exact K H locs ls hP hD hS (lv_sub hl [1] rfl)
    · replace h := it_f h c_1
      refine lv_iload_n hx hb dX10_isSymmetric_10 rfl (lv_at hl 1 rfl) ?_
      refine lv_if_eq (tgt := 44) hx hb dX10_isSymmetric_11 (by decide) (fun c_2 => ?_) (fun c_2 => ?_)
      · replace h := it_t h c_2
        refine lv_iconst (v := 0) hx hb dX10_isSymmetric_44 (by decide) ?_
        refine lv_istore_n (lv' := [(1, .int (0 : Int32)), (0, .ref q_t), (2, .int x2)]) hx hb dX10_isSymmetric_45 rfl hl (by decide) rfl (fun ls hl => ?_)
        obtain ⟨x2_3, ex2_3, h⟩ := pl_ok h
        refine lv_iinc (v := x2_3) (lv' := [(2, .int x2_3), (1, .int (0 : Int32)), (0, .ref q_t)]) hx hb dX10_isSymmetric_46 hl (k := 2) rfl (by rw [ex2_3]; rfl) (by decide) rfl (fun ls hl => ?_)
        refine lv_goto (tgt := 4) hx hb dX10_isSymmetric_49 (by decide) ?_
        obtain rfl := sm1 h
        exact ih (0 : Int32) x2_3 hk H locs ls hP hD hS (lv_sub hl [2, 1, 0] rfl)
      · replace h := it_f h c_2
        refine lv_aload_n hx hb dX10_isSymmetric_14 rfl (lv_at hl 0 rfl) ?_
        refine va_get (D := G.1) (ci := 9) (v := .ref q_t_z) (C := RX10) (T := TX10) (N := 21) hx hb hts wi_X10_isSymmetric_X10 hown hK hP 0 rfl rfl 0 (by decide) (hts _ wd_X10_isSymmetric_1) (fun _ h9 => h9) rfl dX10_isSymmetric_15 ?_
        refine lv_iload_n hx hb dX10_isSymmetric_18 rfl (lv_at hl 2 rfl) ?_
        obtain ⟨g_4, h⟩ := gd_ok h
        refine va_iald (D := G.1) hx hb hK hP 1 0 rfl rfl g_4 dX10_isSymmetric_19 ?_
        refine lv_aload_n hx hb dX10_isSymmetric_20 rfl (lv_at hl 0 rfl) ?_
        refine va_get (D := G.1) (ci := 9) (v := .ref q_t_z) (C := RX10) (T := TX10) (N := 21) hx hb hts wi_X10_isSymmetric_X10 hown hK hP 0 rfl rfl 0 (by decide) (hts _ wd_X10_isSymmetric_1) (fun _ h9 => h9) rfl dX10_isSymmetric_21 ?_
        refine lv_iload_n hx hb dX10_isSymmetric_24 rfl (lv_at hl 2 rfl) ?_
        refine lv_bipush (v := 7) hx hb dX10_isSymmetric_25 (by decide) ?_
        refine lv_irem hx hb dX10_isSymmetric_27 (by decide) ?_
        refine lv_bipush (v := 7) hx hb dX10_isSymmetric_28 (by decide) ?_
        refine lv_imul hx hb dX10_isSymmetric_30 ?_
        refine lv_iload_n hx hb dX10_isSymmetric_31 rfl (lv_at hl 2 rfl) ?_
        refine lv_bipush (v := 7) hx hb dX10_isSymmetric_32 (by decide) ?_
        refine lv_idiv hx hb dX10_isSymmetric_34 (by decide) ?_
        refine lv_iadd hx hb dX10_isSymmetric_35 ?_
        obtain ⟨g_5, h⟩ := gd_ok h
        refine va_iald (D := G.1) hx hb hK hP 1 0 rfl rfl g_5 dX10_isSymmetric_36 ?_
        refine lv_icmp_ne (tgt := 44) hx hb dX10_isSymmetric_37 (by decide) (fun c_6 => ?_) (fun c_6 => ?_)
        · replace h := it_f h c_6
          refine lv_iconst (v := 0) hx hb dX10_isSymmetric_44 (by decide) ?_
          refine lv_istore_n (lv' := [(1, .int (0 : Int32)), (0, .ref q_t), (2, .int x2)]) hx hb dX10_isSymmetric_45 rfl hl (by decide) rfl (fun ls hl => ?_)
          obtain ⟨x2_7, ex2_7, h⟩ := pl_ok h
          refine lv_iinc (v := x2_7) (lv' := [(2, .int x2_7), (1, .int (0 : Int32)), (0, .ref q_t)]) hx hb dX10_isSymmetric_46 hl (k := 2) rfl (by rw [ex2_7]; rfl) (by decide) rfl (fun ls hl => ?_)
          refine lv_goto (tgt := 4) hx hb dX10_isSymmetric_49 (by decide) ?_
          obtain rfl := sm1 h
          exact ih (0 : Int32) x2_7 hk H locs ls hP hD hS (lv_sub hl [2, 1, 0] rfl)
        · replace h := it_t h c_6
          refine lv_iconst (v := 1) hx hb dX10_isSymmetric_40 (by decide) ?_
          refine lv_goto (tgt := 45) hx hb dX10_isSymmetric_41 (by decide) ?_
          refine lv_istore_n (lv' := [(1, .int (1 : Int32)), (0, .ref q_t), (2, .int x2)]) hx hb dX10_isSymmetric_45 rfl hl (by decide) rfl (fun ls hl => ?_)
          obtain ⟨x2_8, ex2_8, h⟩ := pl_ok h
          refine lv_iinc (v := x2_8) (lv' := [(2, .int x2_8), (1, .int (1 : Int32)), (0, .ref q_t)]) hx hb dX10_isSymmetric_46 hl (k := 2) rfl (by rw [ex2_8]; rfl) (by decide) rfl (fun ls hl => ?_)
          refine lv_goto (tgt := 4) hx hb dX10_isSymmetric_49 (by decide) ?_
          obtain rfl := sm1 h
          exact ih (1 : Int32) x2_8 hk H locs ls hP hD hS (lv_sub hl [2, 1, 0] rfl)
set_option maxHeartbeats 4000000 in
set_option maxRecDepth 100000 in
theorem k_X10_isSymmetric {p : Program} {l : Launch} {e : Env} {s : State} {m : MethodId} {args : Array Value} {below : List Frame} {meth : Method} {c : Code} {Q : State → Prop} {A0 : Nat → Prop} {H0 : Heap} (C : CallFix p m c cX10_isSymmetric 3 s args wsX10_isSymmetric RX10) (G : GT) (hK : gK G s) (hA : ∀ q : Nat, H0.size ≤ q → A0 q) (q_t q_t_z q_t_old q_t_past q_t_kept q_t_text q_t_order q_t_told q_t_rowsTaken q_t_columnsTaken q_t_ways q_t_scaled q_t_rowFactors q_t_columnFactors q_t_rest q_t_diagonals q_t_weights : Nat) (t_states : Int32) (t_isKept : Int32) (t_length : Int32) (t_spot : Int32) (t_toldRows : Int32) (t_z : Nat → Int32) (r : Int32) (h : f_X10_isSymmetric t_z = some r) (KR : ∀ (H : Heap) (locs : List Loc) (ls : Array Slot) (pc : Nat), decode cX10_isSymmetric pc = .ok (.ireturn, 1) → (r = 0 ∨ r = 1) → va_P G.1 vwCl [(q_t, .inr (9, [.ref q_t_z, .ref q_t_old, .ref q_t_past, .int t_states, .ref q_t_kept, .int t_isKept, .ref q_t_text, .int t_length, .ref q_t_order, .ref q_t_told, .int t_spot, .int t_toldRows, .ref q_t_rowsTaken, .ref q_t_columnsTaken, .ref q_t_ways, .ref q_t_scaled, .ref q_t_rowFactors, .ref q_t_columnFactors, .ref q_t_rest, .ref q_t_diagonals, .ref q_t_weights])), (q_t_z, .inl (G.2 0, 50, .inl t_z))] H → va_D A0 [(q_t, .inr (9, [.ref q_t_z, .ref q_t_old, .ref q_t_past, .int t_states, .ref q_t_kept, .int t_isKept, .ref q_t_text, .int t_length, .ref q_t_order, .ref q_t_told, .int t_spot, .int t_toldRows, .ref q_t_rowsTaken, .ref q_t_columnsTaken, .ref q_t_ways, .ref q_t_scaled, .ref q_t_rowFactors, .ref q_t_columnFactors, .ref q_t_rest, .ref q_t_diagonals, .ref q_t_weights])), (q_t_z, .inl (G.2 0, 50, .inl t_z))] → va_S A0 H0 H locs → W p l e ({ frames := 0, cells := 0, slots := 0, locals := 0 } : Room) s m args below meth c H locs 0 0 Q (F0 m pc ls [.int r])) : ∀ (H : Heap) (locs : List Loc) (ls : Array Slot), va_P G.1 vwCl [(q_t, .inr (9, [.ref q_t_z, .ref q_t_old, .ref q_t_past, .int t_states, .ref q_t_kept, .int t_isKept, .ref q_t_text, .int t_length, .ref q_t_order, .ref q_t_told, .int t_spot, .int t_toldRows, .ref q_t_rowsTaken, .ref q_t_columnsTaken, .ref q_t_ways, .ref q_t_scaled, .ref q_t_rowFactors, .ref q_t_columnFactors, .ref q_t_rest, .ref q_t_diagonals, .ref q_t_weights])), (q_t_z, .inl (G.2 0, 50, .inl t_z))] H → va_D A0 [(q_t, .inr (9, [.ref q_t_z, .ref q_t_old, .ref q_t_past, .int t_states, .ref q_t_kept, .int t_isKept, .ref q_t_text, .int t_length, .ref q_t_order, .ref q_t_told, .int t_spot, .int t_toldRows, .ref q_t_rowsTaken, .ref q_t_columnsTaken, .ref q_t_ways, .ref q_t_scaled, .ref q_t_rowFactors, .ref q_t_columnFactors, .ref q_t_rest, .ref q_t_diagonals, .ref q_t_weights])), (q_t_z, .inl (G.2 0, 50, .inl t_z))] → va_S A0 H0 H locs → lv_has ls 3 [(0, .ref q_t)] → W p l e ({ frames := 0, cells := 0, slots := 0, locals := 0 } : Room) s m args below meth c H locs 0 0 Q (F0 m 0 ls []) := by
  obtain ⟨hx, hb, hml, hown, hts⟩ := C
  intro H locs ls hP hD hS hl
  rw [f_X10_isSymmetric] at h
  refine lv_iconst (v := 1) hx hb dX10_isSymmetric_0 (by decide) ?_
  refine lv_istore_n (lv' := [(1, .int (1 : Int32)), (0, .ref q_t)]) hx hb dX10_isSymmetric_1 rfl hl (by decide) rfl (fun ls hl => ?_)
  refine lv_iconst (v := 0) hx hb dX10_isSymmetric_2 (by decide) ?_
  refine lv_istore_n (lv' := [(2, .int (0 : Int32)), (1, .int (1 : Int32)), (0, .ref q_t)]) hx hb dX10_isSymmetric_3 rfl hl (by decide) rfl (fun ls hl => ?_)
  obtain ⟨x1_9, hz_11, h⟩ := bd_ok h
  refine l_X10_isSymmetric_1 ⟨hx, hb, hml, hown, hts⟩ G hK hA q_t q_t_z q_t_old q_t_past q_t_kept q_t_text q_t_order q_t_told q_t_rowsTaken q_t_columnsTaken q_t_ways q_t_scaled q_t_rowFactors q_t_columnFactors q_t_rest q_t_diagonals q_t_weights t_states t_isKept t_length t_spot t_toldRows t_z x1_9 ?_ FU (1 : Int32) (0 : Int32) hz_11 H locs ls hP hD hS (lv_sub hl [2, 1, 0] rfl)
  intro H locs ls hP hD hS hl
  refine lv_iload_n hx hb dX10_isSymmetric_52 rfl (lv_at hl 0 rfl) ?_
  obtain ⟨g_12, h⟩ := gd_ok h
  obtain rfl := sm1 h
  exact KR H locs ls 53 dX10_isSymmetric_53 g_12 hP hD hS
set_option maxHeartbeats 4000000 in
set_option maxRecDepth 100000 in
theorem c_X10_isSymmetric (l : Launch) (G : GT) (q_t q_t_z q_t_old q_t_past q_t_kept q_t_text q_t_order q_t_told q_t_rowsTaken q_t_columnsTaken q_t_ways q_t_scaled q_t_rowFactors q_t_columnFactors q_t_rest q_t_diagonals q_t_weights : Nat) (sz : Nat) (t_states : Int32) (t_isKept : Int32) (t_length : Int32) (t_spot : Int32) (t_toldRows : Int32) (t_z : Nat → Int32) (r : Int32) (h : f_X10_isSymmetric t_z = some r) : Met l yX10_isSymmetric wsX10_isSymmetric ({ frames := 0, cells := 0, slots := 0, locals := 0 } : Room) (va_Pc [.ref q_t] (pcW G [(q_t, .inr (9, [.ref q_t_z, .ref q_t_old, .ref q_t_past, .int t_states, .ref q_t_kept, .int t_isKept, .ref q_t_text, .int t_length, .ref q_t_order, .ref q_t_told, .int t_spot, .int t_toldRows, .ref q_t_rowsTaken, .ref q_t_columnsTaken, .ref q_t_ways, .ref q_t_scaled, .ref q_t_rowFactors, .ref q_t_columnFactors, .ref q_t_rest, .ref q_t_diagonals, .ref q_t_weights])), (q_t_z, .inl (G.2 0, 50, .inl t_z))] sz)) (va_Qi (fun r9 (_ : Unit) => r9 = r) (fun _ t => atW G (va_A [(q_t, .inr (9, [.ref q_t_z, .ref q_t_old, .ref q_t_past, .int t_states, .ref q_t_kept, .int t_isKept, .ref q_t_text, .int t_length, .ref q_t_order, .ref q_t_told, .int t_spot, .int t_toldRows, .ref q_t_rowsTaken, .ref q_t_columnsTaken, .ref q_t_ways, .ref q_t_scaled, .ref q_t_rowFactors, .ref q_t_columnFactors, .ref q_t_rest, .ref q_t_diagonals, .ref q_t_weights])), (q_t_z, .inl (G.2 0, 50, .inl t_z))] sz) [(q_t, .inr (9, [.ref q_t_z, .ref q_t_old, .ref q_t_past, .int t_states, .ref q_t_kept, .int t_isKept, .ref q_t_text, .int t_length, .ref q_t_order, .ref q_t_told, .int t_spot, .int t_toldRows, .ref q_t_rowsTaken, .ref q_t_columnsTaken, .ref q_t_ways, .ref q_t_scaled, .ref q_t_rowFactors, .ref q_t_columnFactors, .ref q_t_rest, .ref q_t_diagonals, .ref q_t_weights])), (q_t_z, .inl (G.2 0, 50, .inl t_z))] t) (va_A [(q_t, .inr (9, [.ref q_t_z, .ref q_t_old, .ref q_t_past, .int t_states, .ref q_t_kept, .int t_isKept, .ref q_t_text, .int t_length, .ref q_t_order, .ref q_t_told, .int t_spot, .int t_toldRows, .ref q_t_rowsTaken, .ref q_t_columnsTaken, .ref q_t_ways, .ref q_t_scaled, .ref q_t_rowFactors, .ref q_t_columnFactors, .ref q_t_rest, .ref q_t_diagonals, .ref q_t_weights])), (q_t_z, .inl (G.2 0, 50, .inl t_z))] sz)) 0 0 (va_A [(q_t, .inr (9, [.ref q_t_z, .ref q_t_old, .ref q_t_past, .int t_states, .ref q_t_kept, .int t_isKept, .ref q_t_text, .int t_length, .ref q_t_order, .ref q_t_told, .int t_spot, .int t_toldRows, .ref q_t_rowsTaken, .ref q_t_columnsTaken, .ref q_t_ways, .ref q_t_scaled, .ref q_t_rowFactors, .ref q_t_columnFactors, .ref q_t_rest, .ref q_t_diagonals, .ref q_t_weights])), (q_t_z, .inl (G.2 0, 50, .inl t_z))] sz) := by
  refine Met.ofW (cc := cX10_isSymmetric) (maxL := 3) (ret := (some .boolean)) (by decide) rfl ?_
  intro p e s m args below meth c s₁ B hml hv
  obtain ⟨rfl, hsz, hP, hK, hD0⟩ := hv
  subst hsz
  have hD := hD0.self (sz := s.heap.size)
  generalize hAe : va_A [(q_t, .inr (9, [.ref q_t_z, .ref q_t_old, .ref q_t_past, .int t_states, .ref q_t_kept, .int t_isKept, .ref q_t_text, .int t_length, .ref q_t_order, .ref q_t_told, .int t_spot, .int t_toldRows, .ref q_t_rowsTaken, .ref q_t_columnsTaken, .ref q_t_ways, .ref q_t_scaled, .ref q_t_rowFactors, .ref q_t_columnFactors, .ref q_t_rest, .ref q_t_diagonals, .ref q_t_weights])), (q_t_z, .inl (G.2 0, 50, .inl t_z))] s.heap.size = A at hD ⊢
  have hA : ∀ q : Nat, s.heap.size ≤ q → A q := fun q h => by rw [← hAe]; exact Or.inr h
  have hl := lv_entry ([.ref q_t]) (n := 3) (Nat.le_of_ble_eq_true rfl)
  rw [lg_entry_eq]
  refine k_X10_isSymmetric ⟨B.exec, B.bytes, hml, findClass_of_methodNamed B.named, atoms_spec (ws := wsX10_isSymmetric) B.pre⟩ G hK hA q_t q_t_z q_t_old q_t_past q_t_kept q_t_text q_t_order q_t_told q_t_rowsTaken q_t_columnsTaken q_t_ways q_t_scaled q_t_rowFactors q_t_columnFactors q_t_rest q_t_diagonals q_t_weights _ _ _ _ _ _ _ h ?_ _ _ _ hP hD va_S.rf hl
  intro H locs ls pc hd hbo hP hD hS
  exact W.zret B.exec B.bytes B.returns (by rcases hbo with e | e <;> subst e <;> rfl) (fun t ht hW => ⟨⟨r, (), rfl, rfl, by rw [ht]; exact hP, hD⟩, hS.F ht⟩) hS.2.2 hd B.notSynchronized
set_option maxRecDepth 20000 in
theorem wd_X10_areSumsLike_1 : Cond.fieldLink RX10 7 "PermanentDeskModel" "z" "[I" ∈ wsX10_areSumsLike := List.mem_of_getElem? (i := 1) (by decide +kernel)
set_option maxRecDepth 20000 in
theorem wi_X10_areSumsLike_X10 : ∀ w ∈ u_ws RX10 TX10 21, w ∈ wsX10_areSumsLike := by decide +kernel
def f_X10_areSumsLike_L1 (t_z : Nat → Int32) : (Int32 × Int32) → Option ((Int32 × Int32) ⊕ Int32)
  | (x1, x2) =>
    gd (okI (49 : Int32) 50) (
    if (t_z (49 : Int32).toNatClampNeg) ≤ x2 then
      some (.inr x1)
    else
      if x1 = 0 then
        pl ((x2 + (1 : Int32)) : Int32) (fun x2_4 =>
        some (.inl ((0 : Int32), x2_4)))
      else
        (f_X10_sumOfLine t_z x2 (0 : Int32)).bind (fun r_5 =>
        (f_X10_sumOfLine t_z (0 : Int32) (0 : Int32)).bind (fun r_7 =>
        if r_5 = r_7 then
          (f_X10_sumOfLine t_z x2 (1 : Int32)).bind (fun r_11 =>
          (f_X10_sumOfLine t_z (0 : Int32) (0 : Int32)).bind (fun r_13 =>
          if r_11 = r_13 then
            pl ((x2 + (1 : Int32)) : Int32) (fun x2_17 =>
            some (.inl ((1 : Int32), x2_17)))
          else
            pl ((x2 + (1 : Int32)) : Int32) (fun x2_16 =>
            some (.inl ((0 : Int32), x2_16)))))
        else
          pl ((x2 + (1 : Int32)) : Int32) (fun x2_10 =>
          some (.inl ((0 : Int32), x2_10))))))
def f_X10_areSumsLike (t_z : Nat → Int32) : Option Int32 :=
  (lpN (f_X10_areSumsLike_L1 t_z) FU ((1 : Int32), (0 : Int32))).bind (fun x1_18 =>
  gd (x1_18 = 0 ∨ x1_18 = 1) (
  some x1_18))
set_option maxHeartbeats 4000000 in
set_option maxRecDepth 100000 in
theorem l_X10_areSumsLike_1 {p : Program} {l : Launch} {e : Env} {s : State} {m : MethodId} {args : Array Value} {below : List Frame} {meth : Method} {c : Code} {Q : State → Prop} {A0 : Nat → Prop} {H0 : Heap} (C : CallFix p m c cX10_areSumsLike 3 s args wsX10_areSumsLike RX10) (G : GT) (hK : gK G s) (hA : ∀ q : Nat, H0.size ≤ q → A0 q) (q_t q_t_z q_t_old q_t_past q_t_kept q_t_text q_t_order q_t_told q_t_rowsTaken q_t_columnsTaken q_t_ways q_t_scaled q_t_rowFactors q_t_columnFactors q_t_rest q_t_diagonals q_t_weights : Nat) (t_states : Int32) (t_isKept : Int32) (t_length : Int32) (t_spot : Int32) (t_toldRows : Int32) (t_z : Nat → Int32) (E_x1 : Int32) (K : ∀ (H : Heap) (locs : List Loc) (ls : Array Slot), va_P G.1 vwCl [(q_t, .inr (9, [.ref q_t_z, .ref q_t_old, .ref q_t_past, .int t_states, .ref q_t_kept, .int t_isKept, .ref q_t_text, .int t_length, .ref q_t_order, .ref q_t_told, .int t_spot, .int t_toldRows, .ref q_t_rowsTaken, .ref q_t_columnsTaken, .ref q_t_ways, .ref q_t_scaled, .ref q_t_rowFactors, .ref q_t_columnFactors, .ref q_t_rest, .ref q_t_diagonals, .ref q_t_weights])), (q_t_z, .inl (G.2 0, 50, .inl t_z))] H → va_D A0 [(q_t, .inr (9, [.ref q_t_z, .ref q_t_old, .ref q_t_past, .int t_states, .ref q_t_kept, .int t_isKept, .ref q_t_text, .int t_length, .ref q_t_order, .ref q_t_told, .int t_spot, .int t_toldRows, .ref q_t_rowsTaken, .ref q_t_columnsTaken, .ref q_t_ways, .ref q_t_scaled, .ref q_t_rowFactors, .ref q_t_columnFactors, .ref q_t_rest, .ref q_t_diagonals, .ref q_t_weights])), (q_t_z, .inl (G.2 0, 50, .inl t_z))] → va_S A0 H0 H locs → lv_has ls 3 [(1, .int E_x1)] → W p l e ({ frames := 2, cells := 0, slots := 0, locals := 46 } : Room) s m args below meth c H locs 0 0 Q (F0 m 61 ls [])) : ∀ (n : Nat) (x1 : Int32) (x2 : Int32), lpN (f_X10_areSumsLike_L1 t_z) n (x1, x2) = some E_x1 → ∀ (H : Heap) (locs : List Loc) (ls : Array Slot), va_P G.1 vwCl [(q_t, .inr (9, [.ref q_t_z, .ref q_t_old, .ref q_t_past, .int t_states, .ref q_t_kept, .int t_isKept, .ref q_t_text, .int t_length, .ref q_t_order, .ref q_t_told, .int t_spot, .int t_toldRows, .ref q_t_rowsTaken, .ref q_t_columnsTaken, .ref q_t_ways, .ref q_t_scaled, .ref q_t_rowFactors, .ref q_t_columnFactors, .ref q_t_rest, .ref q_t_diagonals, .ref q_t_weights])), (q_t_z, .inl (G.2 0, 50, .inl t_z))] H → va_D A0 [(q_t, .inr (9, [.ref q_t_z, .ref q_t_old, .ref q_t_past, .int t_states, .ref q_t_kept, .int t_isKept, .ref q_t_text, .int t_length, .ref q_t_order, .ref q_t_told, .int t_spot, .int t_toldRows, .ref q_t_rowsTaken, .ref q_t_columnsTaken, .ref q_t_ways, .ref q_t_scaled, .ref q_t_rowFactors, .ref q_t_columnFactors, .ref q_t_rest, .ref q_t_diagonals, .ref q_t_weights])), (q_t_z, .inl (G.2 0, 50, .inl t_z))] → va_S A0 H0 H locs → lv_has ls 3 [(0, .ref q_t), (1, .int x1), (2, .int x2)] → W p l e ({ frames := 2, cells := 0, slots := 0, locals := 46 } : Room) s m args below meth c H locs 0 0 Q (F0 m 4 ls []) := by
  obtain ⟨hx, hb, hml, hown, hts⟩ := C
  intro n
  induction n with
  | zero => intro x1 x2 h; exact absurd h (fun h => lp_0 h)
  | succ n ih =>
    intro x1 x2 h H locs ls hP hD hS hl
    obtain ⟨y, h, hk⟩ := lp_s h
    rw [f_X10_areSumsLike_L1] at h
    refine lv_iload_n hx hb dX10_areSumsLike_4 rfl (lv_at hl 2 rfl) ?_
    refine lv_aload_n hx hb dX10_areSumsLike_5 rfl (lv_at hl 0 rfl) ?_
    refine va_get (D := G.1) (ci := 9) (v := .ref q_t_z) (C := RX10) (T := TX10) (N := 21) hx hb hts wi_X10_areSumsLike_X10 hown hK hP 0 rfl rfl 0 (by decide) (hts _ wd_X10_areSumsLike_1) (fun _ h9 => h9) rfl dX10_areSumsLike_6 ?_
    refine lv_bipush (v := 49) hx hb dX10_areSumsLike_9 (by decide) ?_
    obtain ⟨g_1, h⟩ := gd_ok h
    refine va_iald (D := G.1) hx hb hK hP 1 0 rfl rfl g_1 dX10_areSumsLike_11 ?_
    refine lv_icmp_ge (tgt := 61) hx hb dX10_areSumsLike_12 (by decide) (fun c_2 => ?_) (fun c_2 => ?_)
    · replace h := it_t h c_2
      obtain rfl := sm1 h
      obtain rfl := sm1 hk
      exact K H locs ls hP hD hS (lv_sub hl [1] rfl)
    · replace h := it_f h c_2
      refine lv_iload_n hx hb dX10_areSumsLike_15 rfl (lv_at hl 1 rfl) ?_
      refine lv_if_eq (tgt := 53) hx hb dX10_areSumsLike_16 (by decide) (fun c_3 => ?_) (fun c_3 => ?_)
      · replace h := it_t h c_3
        refine lv_iconst (v := 0) hx hb dX10_areSumsLike_53 (by decide) ?_
        refine lv_istore_n (lv' := [(1, .int (0 : Int32)), (0, .ref q_t), (2, .int x2)]) hx hb dX10_areSumsLike_54 rfl hl (by decide) rfl (fun ls hl => ?_)
        obtain ⟨x2_4, ex2_4, h⟩ := pl_ok h
        refine lv_iinc (v := x2_4) (lv' := [(2, .int x2_4), (1, .int (0 : Int32)), (0, .ref q_t)]) hx hb dX10_areSumsLike_55 hl (k := 2) rfl (by rw [ex2_4]; rfl) (by decide) rfl (fun ls hl => ?_)
        refine lv_goto (tgt := 4) hx hb dX10_areSumsLike_58 (by decide) ?_
        obtain rfl := sm1 h
        exact ih (0 : Int32) x2_4 hk H locs ls hP hD hS (lv_sub hl [2, 1, 0] rfl)
      · replace h := it_f h c_3
        refine lv_aload_n hx hb dX10_areSumsLike_19 rfl (lv_at hl 0 rfl) ?_
        refine lv_iload_n hx hb dX10_areSumsLike_20 rfl (lv_at hl 2 rfl) ?_
        refine lv_iconst (v := 0) hx hb dX10_areSumsLike_21 (by decide) ?_
        obtain ⟨r_5, hf_6, h⟩ := bd_ok h
        refine ck_Vi (rest := []) (wn := [(q_t, .inr (9, [.ref q_t_z, .ref q_t_old, .ref q_t_past, .int t_states, .ref q_t_kept, .int t_isKept, .ref q_t_text, .int t_length, .ref q_t_order, .ref q_t_told, .int t_spot, .int t_toldRows, .ref q_t_rowsTaken, .ref q_t_columnsTaken, .ref q_t_ways, .ref q_t_scaled, .ref q_t_rowFactors, .ref q_t_columnFactors, .ref q_t_rest, .ref q_t_diagonals, .ref q_t_weights])), (q_t_z, .inl (G.2 0, 50, .inl t_z))]) ⟨hx, hb, hml, hown, hts⟩ hK hP hD hS hA [0, 1] [] [0, 1] (c_X10_sumOfLine l G q_t q_t_z q_t_old q_t_past q_t_kept q_t_text q_t_order q_t_told q_t_rowsTaken q_t_columnsTaken q_t_ways q_t_scaled q_t_rowFactors q_t_columnFactors q_t_rest q_t_diagonals q_t_weights _ t_states t_isKept t_length t_spot t_toldRows t_z x2 (0 : Int32) _ hf_6) (cwV 2 hts gX10_areSumsLike_X10_sumOfLine rfl rfl rfl (by decide +kernel) ⟨Nat.le_of_ble_eq_true rfl, Nat.le_of_ble_eq_true rfl⟩) rfl rfl rfl rfl rfl rfl (by decide) rfl rfl rfl hl.1 rfl (Nat.le_of_ble_eq_true rfl) dX10_areSumsLike_22 ⟨Nat.zero_le _, Nat.zero_le _⟩ (fun H locs hP hD hS => ?_)
        refine lv_aload_n hx hb dX10_areSumsLike_25 rfl (lv_at hl 0 rfl) ?_
        refine lv_iconst (v := 0) hx hb dX10_areSumsLike_26 (by decide) ?_
        refine lv_iconst (v := 0) hx hb dX10_areSumsLike_27 (by decide) ?_
        obtain ⟨r_7, hf_8, h⟩ := bd_ok h
        refine ck_Vi (rest := [.int r_5]) (wn := [(q_t, .inr (9, [.ref q_t_z, .ref q_t_old, .ref q_t_past, .int t_states, .ref q_t_kept, .int t_isKept, .ref q_t_text, .int t_length, .ref q_t_order, .ref q_t_told, .int t_spot, .int t_toldRows, .ref q_t_rowsTaken, .ref q_t_columnsTaken, .ref q_t_ways, .ref q_t_scaled, .ref q_t_rowFactors, .ref q_t_columnFactors, .ref q_t_rest, .ref q_t_diagonals, .ref q_t_weights])), (q_t_z, .inl (G.2 0, 50, .inl t_z))]) ⟨hx, hb, hml, hown, hts⟩ hK hP hD hS hA [0, 1] [] [0, 1] (c_X10_sumOfLine l G q_t q_t_z q_t_old q_t_past q_t_kept q_t_text q_t_order q_t_told q_t_rowsTaken q_t_columnsTaken q_t_ways q_t_scaled q_t_rowFactors q_t_columnFactors q_t_rest q_t_diagonals q_t_weights _ t_states t_isKept t_length t_spot t_toldRows t_z (0 : Int32) (0 : Int32) _ hf_8) (cwV 2 hts gX10_areSumsLike_X10_sumOfLine rfl rfl rfl (by decide +kernel) ⟨Nat.le_of_ble_eq_true rfl, Nat.le_of_ble_eq_true rfl⟩) rfl rfl rfl rfl rfl rfl (by decide) rfl rfl rfl hl.1 rfl (Nat.le_of_ble_eq_true rfl) dX10_areSumsLike_28 ⟨Nat.zero_le _, Nat.zero_le _⟩ (fun H locs hP hD hS => ?_)
        refine lv_icmp_ne (tgt := 53) hx hb dX10_areSumsLike_31 (by decide) (fun c_9 => ?_) (fun c_9 => ?_)
        · replace h := it_f h c_9
          refine lv_iconst (v := 0) hx hb dX10_areSumsLike_53 (by decide) ?_
          refine lv_istore_n (lv' := [(1, .int (0 : Int32)), (0, .ref q_t), (2, .int x2)]) hx hb dX10_areSumsLike_54 rfl hl (by decide) rfl (fun ls hl => ?_)
          obtain ⟨x2_10, ex2_10, h⟩ := pl_ok h
          refine lv_iinc (v := x2_10) (lv' := [(2, .int x2_10), (1, .int (0 : Int32)), (0, .ref q_t)]) hx hb dX10_areSumsLike_55 hl (k := 2) rfl (by rw [ex2_10]; rfl) (by decide) rfl (fun ls hl => ?_)
          refine lv_goto (tgt := 4) hx hb dX10_areSumsLike_58 (by decide) ?_
          obtain rfl := sm1 h
          exact ih (0 : Int32) x2_10 hk H locs ls hP hD hS (lv_sub hl [2, 1, 0] rfl)
        · replace h := it_t h c_9
          refine lv_aload_n hx hb dX10_areSumsLike_34 rfl (lv_at hl 0 rfl) ?_
          refine lv_iload_n hx hb dX10_areSumsLike_35 rfl (lv_at hl 2 rfl) ?_
          refine lv_iconst (v := 1) hx hb dX10_areSumsLike_36 (by decide) ?_
          obtain ⟨r_11, hf_12, h⟩ := bd_ok h
          refine ck_Vi (rest := []) (wn := [(q_t, .inr (9, [.ref q_t_z, .ref q_t_old, .ref q_t_past, .int t_states, .ref q_t_kept, .int t_isKept, .ref q_t_text, .int t_length, .ref q_t_order, .ref q_t_told, .int t_spot, .int t_toldRows, .ref q_t_rowsTaken, .ref q_t_columnsTaken, .ref q_t_ways, .ref q_t_scaled, .ref q_t_rowFactors, .ref q_t_columnFactors, .ref q_t_rest, .ref q_t_diagonals, .ref q_t_weights])), (q_t_z, .inl (G.2 0, 50, .inl t_z))]) ⟨hx, hb, hml, hown, hts⟩ hK hP hD hS hA [0, 1] [] [0, 1] (c_X10_sumOfLine l G q_t q_t_z q_t_old q_t_past q_t_kept q_t_text q_t_order q_t_told q_t_rowsTaken q_t_columnsTaken q_t_ways q_t_scaled q_t_rowFactors q_t_columnFactors q_t_rest q_t_diagonals q_t_weights _ t_states t_isKept t_length t_spot t_toldRows t_z x2 (1 : Int32) _ hf_12) (cwV 2 hts gX10_areSumsLike_X10_sumOfLine rfl rfl rfl (by decide +kernel) ⟨Nat.le_of_ble_eq_true rfl, Nat.le_of_ble_eq_true rfl⟩) rfl rfl rfl rfl rfl rfl (by decide) rfl rfl rfl hl.1 rfl (Nat.le_of_ble_eq_true rfl) dX10_areSumsLike_37 ⟨Nat.zero_le _, Nat.zero_le _⟩ (fun H locs hP hD hS => ?_)
          refine lv_aload_n hx hb dX10_areSumsLike_40 rfl (lv_at hl 0 rfl) ?_
          refine lv_iconst (v := 0) hx hb dX10_areSumsLike_41 (by decide) ?_
          refine lv_iconst (v := 0) hx hb dX10_areSumsLike_42 (by decide) ?_
          obtain ⟨r_13, hf_14, h⟩ := bd_ok h
          refine ck_Vi (rest := [.int r_11]) (wn := [(q_t, .inr (9, [.ref q_t_z, .ref q_t_old, .ref q_t_past, .int t_states, .ref q_t_kept, .int t_isKept, .ref q_t_text, .int t_length, .ref q_t_order, .ref q_t_told, .int t_spot, .int t_toldRows, .ref q_t_rowsTaken, .ref q_t_columnsTaken, .ref q_t_ways, .ref q_t_scaled, .ref q_t_rowFactors, .ref q_t_columnFactors, .ref q_t_rest, .ref q_t_diagonals, .ref q_t_weights])), (q_t_z, .inl (G.2 0, 50, .inl t_z))]) ⟨hx, hb, hml, hown, hts⟩ hK hP hD hS hA [0, 1] [] [0, 1] (c_X10_sumOfLine l G q_t q_t_z q_t_old q_t_past q_t_kept q_t_text q_t_order q_t_told q_t_rowsTaken q_t_columnsTaken q_t_ways q_t_scaled q_t_rowFactors q_t_columnFactors q_t_rest q_t_diagonals q_t_weights _ t_states t_isKept t_length t_spot t_toldRows t_z (0 : Int32) (0 : Int32) _ hf_14) (cwV 2 hts gX10_areSumsLike_X10_sumOfLine rfl rfl rfl (by decide +kernel) ⟨Nat.le_of_ble_eq_true rfl, Nat.le_of_ble_eq_true rfl⟩) rfl rfl rfl rfl rfl rfl (by decide) rfl rfl rfl hl.1 rfl (Nat.le_of_ble_eq_true rfl) dX10_areSumsLike_43 ⟨Nat.zero_le _, Nat.zero_le _⟩ (fun H locs hP hD hS => ?_)
          refine lv_icmp_ne (tgt := 53) hx hb dX10_areSumsLike_46 (by decide) (fun c_15 => ?_) (fun c_15 => ?_)
          · replace h := it_f h c_15
            refine lv_iconst (v := 0) hx hb dX10_areSumsLike_53 (by decide) ?_
            refine lv_istore_n (lv' := [(1, .int (0 : Int32)), (0, .ref q_t), (2, .int x2)]) hx hb dX10_areSumsLike_54 rfl hl (by decide) rfl (fun ls hl => ?_)
            obtain ⟨x2_16, ex2_16, h⟩ := pl_ok h
            refine lv_iinc (v := x2_16) (lv' := [(2, .int x2_16), (1, .int (0 : Int32)), (0, .ref q_t)]) hx hb dX10_areSumsLike_55 hl (k := 2) rfl (by rw [ex2_16]; rfl) (by decide) rfl (fun ls hl => ?_)
            refine lv_goto (tgt := 4) hx hb dX10_areSumsLike_58 (by decide) ?_
            obtain rfl := sm1 h
            exact ih (0 : Int32) x2_16 hk H locs ls hP hD hS (lv_sub hl [2, 1, 0] rfl)
          · replace h := it_t h c_15
            refine lv_iconst (v := 1) hx hb dX10_areSumsLike_49 (by decide) ?_
            refine lv_goto (tgt := 54) hx hb dX10_areSumsLike_50 (by decide) ?_
            refine lv_istore_n (lv' := [(1, .int (1 : Int32)), (0, .ref q_t), (2, .int x2)]) hx hb dX10_areSumsLike_54 rfl hl (by decide) rfl (fun ls hl => ?_)
            obtain ⟨x2_17, ex2_17, h⟩ := pl_ok h
            refine lv_iinc (v := x2_17) (lv' := [(2, .int x2_17), (1, .int (1 : Int32)), (0, .ref q_t)]) hx hb dX10_areSumsLike_55 hl (k := 2) rfl (by rw [ex2_17]; rfl) (by decide) rfl (fun ls hl => ?_)
            refine lv_goto (tgt := 4) hx hb dX10_areSumsLike_58 (by decide) ?_
            obtain rfl := sm1 h
            exact ih (1 : Int32) x2_17 hk H locs ls hP hD hS (lv_sub hl [2, 1, 0] rfl)
set_option maxHeartbeats 4000000 in
set_option maxRecDepth 100000 in
theorem k_X10_areSumsLike {p : Program} {l : Launch} {e : Env} {s : State} {m : MethodId} {args : Array Value} {below : List Frame} {meth : Method} {c : Code} {Q : State → Prop} {A0 : Nat → Prop} {H0 : Heap} (C : CallFix p m c cX10_areSumsLike 3 s args wsX10_areSumsLike RX10) (G : GT) (hK : gK G s) (hA : ∀ q : Nat, H0.size ≤ q → A0 q) (q_t q_t_z q_t_old q_t_past q_t_kept q_t_text q_t_order q_t_told q_t_rowsTaken q_t_columnsTaken q_t_ways q_t_scaled q_t_rowFactors q_t_columnFactors q_t_rest q_t_diagonals q_t_weights : Nat) (t_states : Int32) (t_isKept : Int32) (t_length : Int32) (t_spot : Int32) (t_toldRows : Int32) (t_z : Nat → Int32) (r : Int32) (h : f_X10_areSumsLike t_z = some r) (KR : ∀ (H : Heap) (locs : List Loc) (ls : Array Slot) (pc : Nat), decode cX10_areSumsLike pc = .ok (.ireturn, 1) → (r = 0 ∨ r = 1) → va_P G.1 vwCl [(q_t, .inr (9, [.ref q_t_z, .ref q_t_old, .ref q_t_past, .int t_states, .ref q_t_kept, .int t_isKept, .ref q_t_text, .int t_length, .ref q_t_order, .ref q_t_told, .int t_spot, .int t_toldRows, .ref q_t_rowsTaken, .ref q_t_columnsTaken, .ref q_t_ways, .ref q_t_scaled, .ref q_t_rowFactors, .ref q_t_columnFactors, .ref q_t_rest, .ref q_t_diagonals, .ref q_t_weights])), (q_t_z, .inl (G.2 0, 50, .inl t_z))] H → va_D A0 [(q_t, .inr (9, [.ref q_t_z, .ref q_t_old, .ref q_t_past, .int t_states, .ref q_t_kept, .int t_isKept, .ref q_t_text, .int t_length, .ref q_t_order, .ref q_t_told, .int t_spot, .int t_toldRows, .ref q_t_rowsTaken, .ref q_t_columnsTaken, .ref q_t_ways, .ref q_t_scaled, .ref q_t_rowFactors, .ref q_t_columnFactors, .ref q_t_rest, .ref q_t_diagonals, .ref q_t_weights])), (q_t_z, .inl (G.2 0, 50, .inl t_z))] → va_S A0 H0 H locs → W p l e ({ frames := 2, cells := 0, slots := 0, locals := 46 } : Room) s m args below meth c H locs 0 0 Q (F0 m pc ls [.int r])) : ∀ (H : Heap) (locs : List Loc) (ls : Array Slot), va_P G.1 vwCl [(q_t, .inr (9, [.ref q_t_z, .ref q_t_old, .ref q_t_past, .int t_states, .ref q_t_kept, .int t_isKept, .ref q_t_text, .int t_length, .ref q_t_order, .ref q_t_told, .int t_spot, .int t_toldRows, .ref q_t_rowsTaken, .ref q_t_columnsTaken, .ref q_t_ways, .ref q_t_scaled, .ref q_t_rowFactors, .ref q_t_columnFactors, .ref q_t_rest, .ref q_t_diagonals, .ref q_t_weights])), (q_t_z, .inl (G.2 0, 50, .inl t_z))] H → va_D A0 [(q_t, .inr (9, [.ref q_t_z, .ref q_t_old, .ref q_t_past, .int t_states, .ref q_t_kept, .int t_isKept, .ref q_t_text, .int t_length, .ref q_t_order, .ref q_t_told, .int t_spot, .int t_toldRows, .ref q_t_rowsTaken, .ref q_t_columnsTaken, .ref q_t_ways, .ref q_t_scaled, .ref q_t_rowFactors, .ref q_t_columnFactors, .ref q_t_rest, .ref q_t_diagonals, .ref q_t_weights])), (q_t_z, .inl (G.2 0, 50, .inl t_z))] → va_S A0 H0 H locs → lv_has ls 3 [(0, .ref q_t)] → W p l e ({ frames := 2, cells := 0, slots := 0, locals := 46 } : Room) s m args below meth c H locs 0 0 Q (F0 m 0 ls []) := by
  obtain ⟨hx, hb, hml, hown, hts⟩ := C
  intro H locs ls hP hD hS hl
  rw [f_X10_areSumsLike] at h
  refine lv_iconst (v := 1) hx hb dX10_areSumsLike_0 (by decide) ?_
  refine lv_istore_n (lv' := [(1, .int (1 : Int32)), (0, .ref q_t)]) hx hb dX10_areSumsLike_1 rfl hl (by decide) rfl (fun ls hl => ?_)
  refine lv_iconst (v := 0) hx hb dX10_areSumsLike_2 (by decide) ?_
  refine lv_istore_n (lv' := [(2, .int (0 : Int32)), (1, .int (1 : Int32)), (0, .ref q_t)]) hx hb dX10_areSumsLike_3 rfl hl (by decide) rfl (fun ls hl => ?_)
  obtain ⟨x1_18, hz_20, h⟩ := bd_ok h
  refine l_X10_areSumsLike_1 ⟨hx, hb, hml, hown, hts⟩ G hK hA q_t q_t_z q_t_old q_t_past q_t_kept q_t_text q_t_order q_t_told q_t_rowsTaken q_t_columnsTaken q_t_ways q_t_scaled q_t_rowFactors q_t_columnFactors q_t_rest q_t_diagonals q_t_weights t_states t_isKept t_length t_spot t_toldRows t_z x1_18 ?_ FU (1 : Int32) (0 : Int32) hz_20 H locs ls hP hD hS (lv_sub hl [2, 1, 0] rfl)
  intro H locs ls hP hD hS hl
  refine lv_iload_n hx hb dX10_areSumsLike_61 rfl (lv_at hl 0 rfl) ?_
  obtain ⟨g_21, h⟩ := gd_ok h
  obtain rfl := sm1 h
  exact KR H locs ls 62 dX10_areSumsLike_62 g_21 hP hD hS
set_option maxHeartbeats 4000000 in
set_option maxRecDepth 100000 in
theorem c_X10_areSumsLike (l : Launch) (G : GT) (q_t q_t_z q_t_old q_t_past q_t_kept q_t_text q_t_order q_t_told q_t_rowsTaken q_t_columnsTaken q_t_ways q_t_scaled q_t_rowFactors q_t_columnFactors q_t_rest q_t_diagonals q_t_weights : Nat) (sz : Nat) (t_states : Int32) (t_isKept : Int32) (t_length : Int32) (t_spot : Int32) (t_toldRows : Int32) (t_z : Nat → Int32) (r : Int32) (h : f_X10_areSumsLike t_z = some r) : Met l yX10_areSumsLike wsX10_areSumsLike ({ frames := 2, cells := 0, slots := 0, locals := 46 } : Room) (va_Pc [.ref q_t] (pcW G [(q_t, .inr (9, [.ref q_t_z, .ref q_t_old, .ref q_t_past, .int t_states, .ref q_t_kept, .int t_isKept, .ref q_t_text, .int t_length, .ref q_t_order, .ref q_t_told, .int t_spot, .int t_toldRows, .ref q_t_rowsTaken, .ref q_t_columnsTaken, .ref q_t_ways, .ref q_t_scaled, .ref q_t_rowFactors, .ref q_t_columnFactors, .ref q_t_rest, .ref q_t_diagonals, .ref q_t_weights])), (q_t_z, .inl (G.2 0, 50, .inl t_z))] sz)) (va_Qi (fun r9 (_ : Unit) => r9 = r) (fun _ t => atW G (va_A [(q_t, .inr (9, [.ref q_t_z, .ref q_t_old, .ref q_t_past, .int t_states, .ref q_t_kept, .int t_isKept, .ref q_t_text, .int t_length, .ref q_t_order, .ref q_t_told, .int t_spot, .int t_toldRows, .ref q_t_rowsTaken, .ref q_t_columnsTaken, .ref q_t_ways, .ref q_t_scaled, .ref q_t_rowFactors, .ref q_t_columnFactors, .ref q_t_rest, .ref q_t_diagonals, .ref q_t_weights])), (q_t_z, .inl (G.2 0, 50, .inl t_z))] sz) [(q_t, .inr (9, [.ref q_t_z, .ref q_t_old, .ref q_t_past, .int t_states, .ref q_t_kept, .int t_isKept, .ref q_t_text, .int t_length, .ref q_t_order, .ref q_t_told, .int t_spot, .int t_toldRows, .ref q_t_rowsTaken, .ref q_t_columnsTaken, .ref q_t_ways, .ref q_t_scaled, .ref q_t_rowFactors, .ref q_t_columnFactors, .ref q_t_rest, .ref q_t_diagonals, .ref q_t_weights])), (q_t_z, .inl (G.2 0, 50, .inl t_z))] t) (va_A [(q_t, .inr (9, [.ref q_t_z, .ref q_t_old, .ref q_t_past, .int t_states, .ref q_t_kept, .int t_isKept, .ref q_t_text, .int t_length, .ref q_t_order, .ref q_t_told, .int t_spot, .int t_toldRows, .ref q_t_rowsTaken, .ref q_t_columnsTaken, .ref q_t_ways, .ref q_t_scaled, .ref q_t_rowFactors, .ref q_t_columnFactors, .ref q_t_rest, .ref q_t_diagonals, .ref q_t_weights])), (q_t_z, .inl (G.2 0, 50, .inl t_z))] sz)) 0 0 (va_A [(q_t, .inr (9, [.ref q_t_z, .ref q_t_old, .ref q_t_past, .int t_states, .ref q_t_kept, .int t_isKept, .ref q_t_text, .int t_length, .ref q_t_order, .ref q_t_told, .int t_spot, .int t_toldRows, .ref q_t_rowsTaken, .ref q_t_columnsTaken, .ref q_t_ways, .ref q_t_scaled, .ref q_t_rowFactors, .ref q_t_columnFactors, .ref q_t_rest, .ref q_t_diagonals, .ref q_t_weights])), (q_t_z, .inl (G.2 0, 50, .inl t_z))] sz) := by
  refine Met.ofW (cc := cX10_areSumsLike) (maxL := 3) (ret := (some .boolean)) (by decide) rfl ?_
  intro p e s m args below meth c s₁ B hml hv
  obtain ⟨rfl, hsz, hP, hK, hD0⟩ := hv
  subst hsz
  have hD := hD0.self (sz := s.heap.size)
  generalize hAe : va_A [(q_t, .inr (9, [.ref q_t_z, .ref q_t_old, .ref q_t_past, .int t_states, .ref q_t_kept, .int t_isKept, .ref q_t_text, .int t_length, .ref q_t_order, .ref q_t_told, .int t_spot, .int t_toldRows, .ref q_t_rowsTaken, .ref q_t_columnsTaken, .ref q_t_ways, .ref q_t_scaled, .ref q_t_rowFactors, .ref q_t_columnFactors, .ref q_t_rest, .ref q_t_diagonals, .ref q_t_weights])), (q_t_z, .inl (G.2 0, 50, .inl t_z))] s.heap.size = A at hD ⊢
  have hA : ∀ q : Nat, s.heap.size ≤ q → A q := fun q h => by rw [← hAe]; exact Or.inr h
  have hl := lv_entry ([.ref q_t]) (n := 3) (Nat.le_of_ble_eq_true rfl)
  rw [lg_entry_eq]
  refine k_X10_areSumsLike ⟨B.exec, B.bytes, hml, findClass_of_methodNamed B.named, atoms_spec (ws := wsX10_areSumsLike) B.pre⟩ G hK hA q_t q_t_z q_t_old q_t_past q_t_kept q_t_text q_t_order q_t_told q_t_rowsTaken q_t_columnsTaken q_t_ways q_t_scaled q_t_rowFactors q_t_columnFactors q_t_rest q_t_diagonals q_t_weights _ _ _ _ _ _ _ h ?_ _ _ _ hP hD va_S.rf hl
  intro H locs ls pc hd hbo hP hD hS
  exact W.zret B.exec B.bytes B.returns (by rcases hbo with e | e <;> subst e <;> rfl) (fun t ht hW => ⟨⟨r, (), rfl, rfl, by rw [ht]; exact hP, hD⟩, hS.F ht⟩) hS.2.2 hd B.notSynchronized
set_option maxRecDepth 20000 in
theorem wd_X10_total_1 : Cond.fieldLink RX10 7 "PermanentDeskModel" "z" "[I" ∈ wsX10_total := List.mem_of_getElem? (i := 1) (by decide +kernel)
set_option maxRecDepth 20000 in
theorem wi_X10_total_X10 : ∀ w ∈ u_ws RX10 TX10 21, w ∈ wsX10_total := by decide +kernel
set_option maxRecDepth 20000 in
theorem wd_X10_total_2 : Cond.fieldLink RX10 63 "PermanentDeskModel" "states" "I" ∈ wsX10_total := List.mem_of_getElem? (i := 2) (by decide +kernel)
set_option maxRecDepth 20000 in
theorem wd_X10_total_3 : Cond.fieldLink RX10 112 "PermanentDeskModel" "length" "I" ∈ wsX10_total := List.mem_of_getElem? (i := 3) (by decide +kernel)
set_option maxRecDepth 20000 in
theorem wd_X10_total_4 : Cond.constant RX10 83 (-2000000002) ∈ wsX10_total := List.mem_of_getElem? (i := 4) (by decide +kernel)
def f_X10_total_L1 (t_z : Nat → Int32) : (Int32 × Int32 × Int32) → Option ((Int32 × Int32 × Int32) ⊕ (Int32 × Int32))
  | (x2, x3, x4) =>
    if (49 : Int32) ≤ x4 then
      some (.inr (x2, x3))
    else
      gd (okI x4 50) (
      Option.bind (
        if (t_z x4.toNatClampNeg) = 0 then
          some (0 : Int32)
        else
          some (1 : Int32)) (fun y_4 =>
      pl ((x2 + y_4) : Int32) (fun x2_5 =>
      gd (okI x4 50) (
      pl ((x3 + (t_z x4.toNatClampNeg)) : Int32) (fun x3_7 =>
      pl ((x4 + (1 : Int32)) : Int32) (fun x4_8 =>
      some (.inl (x2_5, x3_7, x4_8))))))))
def f_X10_total (t_states : Int32) (t_length : Int32) (t_z : Nat → Int32) (a1 : Int32) : Option Int32 :=
  (lpN (f_X10_total_L1 t_z) FU ((0 : Int32), (0 : Int32), (0 : Int32))).bind (fun (x2_9, x3_10) =>
  if a1 = (0 : Int32) then
    gd (okI (49 : Int32) 50) (
    some (t_z (49 : Int32).toNatClampNeg))
  else
  if a1 = (1 : Int32) then
    some x2_9
  else
  if a1 = (2 : Int32) then
    some x3_10
  else
  if a1 = (3 : Int32) then
    (f_X10_extreme t_z (1 : Int32)).bind (fun r_14 =>
    some r_14)
  else
  if a1 = (4 : Int32) then
    (f_X10_extreme t_z (0 : Int32)).bind (fun r_16 =>
    some r_16)
  else
  if a1 = (5 : Int32) then
    (f_X10_isSymmetric t_z).bind (fun r_18 =>
    if r_18 = 0 then
      some (0 : Int32)
    else
      some (1 : Int32))
  else
  if a1 = (6 : Int32) then
    (f_X10_areSumsLike t_z).bind (fun r_21 =>
    if r_21 = 0 then
      some (0 : Int32)
    else
      some (1 : Int32))
  else
  if a1 = (7 : Int32) then
    some t_states
  else
  if a1 = (8 : Int32) then
    some t_length
  else
  some (-2000000002 : Int32))
set_option maxHeartbeats 4000000 in
set_option maxRecDepth 100000 in
theorem l_X10_total_1 {p : Program} {l : Launch} {e : Env} {s : State} {m : MethodId} {args : Array Value} {below : List Frame} {meth : Method} {c : Code} {Q : State → Prop} {A0 : Nat → Prop} {H0 : Heap} (C : CallFix p m c cX10_total 5 s args wsX10_total RX10) (G : GT) (hK : gK G s) (hA : ∀ q : Nat, H0.size ≤ q → A0 q) (q_t q_t_z q_t_old q_t_past q_t_kept q_t_text q_t_order q_t_told q_t_rowsTaken q_t_columnsTaken q_t_ways q_t_scaled q_t_rowFactors q_t_columnFactors q_t_rest q_t_diagonals q_t_weights : Nat) (x1 : Int32) (t_states : Int32) (t_isKept : Int32) (t_length : Int32) (t_spot : Int32) (t_toldRows : Int32) (t_z : Nat → Int32) (E_x2 : Int32) (E_x3 : Int32) (K : ∀ (H : Heap) (locs : List Loc) (ls : Array Slot), va_P G.1 vwCl [(q_t, .inr (9, [.ref q_t_z, .ref q_t_old, .ref q_t_past, .int t_states, .ref q_t_kept, .int t_isKept, .ref q_t_text, .int t_length, .ref q_t_order, .ref q_t_told, .int t_spot, .int t_toldRows, .ref q_t_rowsTaken, .ref q_t_columnsTaken, .ref q_t_ways, .ref q_t_scaled, .ref q_t_rowFactors, .ref q_t_columnFactors, .ref q_t_rest, .ref q_t_diagonals, .ref q_t_weights])), (q_t_z, .inl (G.2 0, 50, .inl t_z))] H → va_D A0 [(q_t, .inr (9, [.ref q_t_z, .ref q_t_old, .ref q_t_past, .int t_states, .ref q_t_kept, .int t_isKept, .ref q_t_text, .int t_length, .ref q_t_order, .ref q_t_told, .int t_spot, .int t_toldRows, .ref q_t_rowsTaken, .ref q_t_columnsTaken, .ref q_t_ways, .ref q_t_scaled, .ref q_t_rowFactors, .ref q_t_columnFactors, .ref q_t_rest, .ref q_t_diagonals, .ref q_t_weights])), (q_t_z, .inl (G.2 0, 50, .inl t_z))] → va_S A0 H0 H locs → lv_has ls 5 [(0, .ref q_t), (1, .int x1), (2, .int E_x2), (3, .int E_x3)] → W p l e ({ frames := 3, cells := 0, slots := 0, locals := 68 } : Room) s m args below meth c H locs 0 0 Q (F0 m 48 ls [])) : ∀ (n : Nat) (x2 : Int32) (x3 : Int32) (x4 : Int32), lpN (f_X10_total_L1 t_z) n (x2, x3, x4) = some (E_x2, E_x3) → ∀ (H : Heap) (locs : List Loc) (ls : Array Slot), va_P G.1 vwCl [(q_t, .inr (9, [.ref q_t_z, .ref q_t_old, .ref q_t_past, .int t_states, .ref q_t_kept, .int t_isKept, .ref q_t_text, .int t_length, .ref q_t_order, .ref q_t_told, .int t_spot, .int t_toldRows, .ref q_t_rowsTaken, .ref q_t_columnsTaken, .ref q_t_ways, .ref q_t_scaled, .ref q_t_rowFactors, .ref q_t_columnFactors, .ref q_t_rest, .ref q_t_diagonals, .ref q_t_weights])), (q_t_z, .inl (G.2 0, 50, .inl t_z))] H → va_D A0 [(q_t, .inr (9, [.ref q_t_z, .ref q_t_old, .ref q_t_past, .int t_states, .ref q_t_kept, .int t_isKept, .ref q_t_text, .int t_length, .ref q_t_order, .ref q_t_told, .int t_spot, .int t_toldRows, .ref q_t_rowsTaken, .ref q_t_columnsTaken, .ref q_t_ways, .ref q_t_scaled, .ref q_t_rowFactors, .ref q_t_columnFactors, .ref q_t_rest, .ref q_t_diagonals, .ref q_t_weights])), (q_t_z, .inl (G.2 0, 50, .inl t_z))] → va_S A0 H0 H locs → lv_has ls 5 [(0, .ref q_t), (1, .int x1), (2, .int x2), (3, .int x3), (4, .int x4)] → W p l e ({ frames := 3, cells := 0, slots := 0, locals := 68 } : Room) s m args below meth c H locs 0 0 Q (F0 m 7 ls []) := by
  obtain ⟨hx, hb, hml, hown, hts⟩ := C
  intro n
  induction n with
  | zero => intro x2 x3 x4 h; exact absurd h (fun h => lp_0 h)
  | succ n ih =>
    intro x2 x3 x4 h H locs ls hP hD hS hl
    obtain ⟨y, h, hk⟩ := lp_s h
    rw [f_X10_total_L1] at h
    refine lv_iload hx hb dX10_total_7 (lv_at hl 4 rfl) ?_
    refine lv_bipush (v := 49) hx hb dX10_total_9 (by decide) ?_
    refine lv_icmp_ge (tgt := 48) hx hb dX10_total_11 (by decide) (fun c_1 => ?_) (fun c_1 => ?_)
    · replace h := it_t h c_1
      obtain rfl := sm1 h
      obtain ⟨rfl, rfl⟩ := sm2 hk
      exact K H locs ls hP hD hS (lv_sub hl [0, 1, 2, 3] rfl)
    · replace h := it_f h c_1
      refine lv_iload_n hx hb dX10_total_14 rfl (lv_at hl 2 rfl) ?_
      refine lv_aload_n hx hb dX10_total_15 rfl (lv_at hl 0 rfl) ?_
      refine va_get (D := G.1) (ci := 9) (v := .ref q_t_z) (C := RX10) (T := TX10) (N := 21) hx hb hts wi_X10_total_X10 hown hK hP 0 rfl rfl 0 (by decide) (hts _ wd_X10_total_1) (fun _ h9 => h9) rfl dX10_total_16 ?_
      refine lv_iload hx hb dX10_total_19 (lv_at hl 4 rfl) ?_
      obtain ⟨g_2, h⟩ := gd_ok h
      refine va_iald (D := G.1) hx hb hK hP 1 0 rfl rfl g_2 dX10_total_21 ?_
      obtain ⟨y_4, hr, h⟩ := bd_ok h
      have J : ∀ (H : Heap) (locs : List Loc) (ls : Array Slot), va_P G.1 vwCl [(q_t, .inr (9, [.ref q_t_z, .ref q_t_old, .ref q_t_past, .int t_states, .ref q_t_kept, .int t_isKept, .ref q_t_text, .int t_length, .ref q_t_order, .ref q_t_told, .int t_spot, .int t_toldRows, .ref q_t_rowsTaken, .ref q_t_columnsTaken, .ref q_t_ways, .ref q_t_scaled, .ref q_t_rowFactors, .ref q_t_columnFactors, .ref q_t_rest, .ref q_t_diagonals, .ref q_t_weights])), (q_t_z, .inl (G.2 0, 50, .inl t_z))] H → va_D A0 [(q_t, .inr (9, [.ref q_t_z, .ref q_t_old, .ref q_t_past, .int t_states, .ref q_t_kept, .int t_isKept, .ref q_t_text, .int t_length, .ref q_t_order, .ref q_t_told, .int t_spot, .int t_toldRows, .ref q_t_rowsTaken, .ref q_t_columnsTaken, .ref q_t_ways, .ref q_t_scaled, .ref q_t_rowFactors, .ref q_t_columnFactors, .ref q_t_rest, .ref q_t_diagonals, .ref q_t_weights])), (q_t_z, .inl (G.2 0, 50, .inl t_z))] → va_S A0 H0 H locs → lv_has ls 5 [(0, .ref q_t), (1, .int x1), (3, .int x3), (4, .int x4)] → W p l e ({ frames := 3, cells := 0, slots := 0, locals := 68 } : Room) s m args below meth c H locs 0 0 Q (F0 m 30 ls [.int y_4, .int x2]) := by
        intro H locs ls hP hD hS hl
        refine lv_iadd hx hb dX10_total_30 ?_
        refine lv_topi (fun x2_5 ex2_5 => ?_)
        replace h := pl_v h ex2_5
        refine lv_istore_n (lv' := [(2, .int x2_5), (0, .ref q_t), (1, .int x1), (3, .int x3), (4, .int x4)]) hx hb dX10_total_31 rfl hl (by decide) rfl (fun ls hl => ?_)
        refine lv_iload_n hx hb dX10_total_32 rfl (lv_at hl 3 rfl) ?_
        refine lv_aload_n hx hb dX10_total_33 rfl (lv_at hl 1 rfl) ?_
        refine va_get (D := G.1) (ci := 9) (v := .ref q_t_z) (C := RX10) (T := TX10) (N := 21) hx hb hts wi_X10_total_X10 hown hK hP 0 rfl rfl 0 (by decide) (hts _ wd_X10_total_1) (fun _ h9 => h9) rfl dX10_total_34 ?_
        refine lv_iload hx hb dX10_total_37 (lv_at hl 4 rfl) ?_
        obtain ⟨g_6, h⟩ := gd_ok h
        refine va_iald (D := G.1) hx hb hK hP 1 0 rfl rfl g_6 dX10_total_39 ?_
        refine lv_iadd hx hb dX10_total_40 ?_
        refine lv_topi (fun x3_7 ex3_7 => ?_)
        replace h := pl_v h ex3_7
        refine lv_istore_n (lv' := [(3, .int x3_7), (2, .int x2_5), (0, .ref q_t), (1, .int x1), (4, .int x4)]) hx hb dX10_total_41 rfl hl (by decide) rfl (fun ls hl => ?_)
        obtain ⟨x4_8, ex4_8, h⟩ := pl_ok h
        refine lv_iinc (v := x4_8) (lv' := [(4, .int x4_8), (3, .int x3_7), (2, .int x2_5), (0, .ref q_t), (1, .int x1)]) hx hb dX10_total_42 hl (k := 4) rfl (by rw [ex4_8]; rfl) (by decide) rfl (fun ls hl => ?_)
        refine lv_goto (tgt := 7) hx hb dX10_total_45 (by decide) ?_
        obtain rfl := sm1 h
        exact ih x2_5 x3_7 x4_8 hk H locs ls hP hD hS (lv_sub hl [3, 4, 2, 1, 0] rfl)
      replace h := hr
      clear hr
      refine lv_if_ne (tgt := 29) hx hb dX10_total_22 (by decide) (fun c_3 => ?_) (fun c_3 => ?_)
      · replace h := it_f h c_3
        refine lv_iconst (v := 1) hx hb dX10_total_29 (by decide) ?_
        obtain rfl := sm1 h
        exact J H locs ls hP hD hS (lv_sub hl [0, 1, 3, 4] rfl)
      · replace h := it_t h c_3
        refine lv_iconst (v := 0) hx hb dX10_total_25 (by decide) ?_
        refine lv_goto (tgt := 30) hx hb dX10_total_26 (by decide) ?_
        obtain rfl := sm1 h
        exact J H locs ls hP hD hS (lv_sub hl [0, 1, 3, 4] rfl)
set_option maxHeartbeats 4000000 in
set_option maxRecDepth 100000 in
theorem k_X10_total {p : Program} {l : Launch} {e : Env} {s : State} {m : MethodId} {args : Array Value} {below : List Frame} {meth : Method} {c : Code} {Q : State → Prop} {A0 : Nat → Prop} {H0 : Heap} (C : CallFix p m c cX10_total 5 s args wsX10_total RX10) (G : GT) (hK : gK G s) (hA : ∀ q : Nat, H0.size ≤ q → A0 q) (q_t q_t_z q_t_old q_t_past q_t_kept q_t_text q_t_order q_t_told q_t_rowsTaken q_t_columnsTaken q_t_ways q_t_scaled q_t_rowFactors q_t_columnFactors q_t_rest q_t_diagonals q_t_weights : Nat) (t_states : Int32) (t_isKept : Int32) (t_length : Int32) (t_spot : Int32) (t_toldRows : Int32) (t_z : Nat → Int32) (a1 : Int32) (r : Int32) (h : f_X10_total t_states t_length t_z a1 = some r) (KR : ∀ (H : Heap) (locs : List Loc) (ls : Array Slot) (pc : Nat), decode cX10_total pc = .ok (.ireturn, 1) → va_P G.1 vwCl [(q_t, .inr (9, [.ref q_t_z, .ref q_t_old, .ref q_t_past, .int t_states, .ref q_t_kept, .int t_isKept, .ref q_t_text, .int t_length, .ref q_t_order, .ref q_t_told, .int t_spot, .int t_toldRows, .ref q_t_rowsTaken, .ref q_t_columnsTaken, .ref q_t_ways, .ref q_t_scaled, .ref q_t_rowFactors, .ref q_t_columnFactors, .ref q_t_rest, .ref q_t_diagonals, .ref q_t_weights])), (q_t_z, .inl (G.2 0, 50, .inl t_z))] H → va_D A0 [(q_t, .inr (9, [.ref q_t_z, .ref q_t_old, .ref q_t_past, .int t_states, .ref q_t_kept, .int t_isKept, .ref q_t_text, .int t_length, .ref q_t_order, .ref q_t_told, .int t_spot, .int t_toldRows, .ref q_t_rowsTaken, .ref q_t_columnsTaken, .ref q_t_ways, .ref q_t_scaled, .ref q_t_rowFactors, .ref q_t_columnFactors, .ref q_t_rest, .ref q_t_diagonals, .ref q_t_weights])), (q_t_z, .inl (G.2 0, 50, .inl t_z))] → va_S A0 H0 H locs → W p l e ({ frames := 3, cells := 0, slots := 0, locals := 68 } : Room) s m args below meth c H locs 0 0 Q (F0 m pc ls [.int r])) : ∀ (H : Heap) (locs : List Loc) (ls : Array Slot), va_P G.1 vwCl [(q_t, .inr (9, [.ref q_t_z, .ref q_t_old, .ref q_t_past, .int t_states, .ref q_t_kept, .int t_isKept, .ref q_t_text, .int t_length, .ref q_t_order, .ref q_t_told, .int t_spot, .int t_toldRows, .ref q_t_rowsTaken, .ref q_t_columnsTaken, .ref q_t_ways, .ref q_t_scaled, .ref q_t_rowFactors, .ref q_t_columnFactors, .ref q_t_rest, .ref q_t_diagonals, .ref q_t_weights])), (q_t_z, .inl (G.2 0, 50, .inl t_z))] H → va_D A0 [(q_t, .inr (9, [.ref q_t_z, .ref q_t_old, .ref q_t_past, .int t_states, .ref q_t_kept, .int t_isKept, .ref q_t_text, .int t_length, .ref q_t_order, .ref q_t_told, .int t_spot, .int t_toldRows, .ref q_t_rowsTaken, .ref q_t_columnsTaken, .ref q_t_ways, .ref q_t_scaled, .ref q_t_rowFactors, .ref q_t_columnFactors, .ref q_t_rest, .ref q_t_diagonals, .ref q_t_weights])), (q_t_z, .inl (G.2 0, 50, .inl t_z))] → va_S A0 H0 H locs → lv_has ls 5 [(0, .ref q_t), (1, .int a1)] → W p l e ({ frames := 3, cells := 0, slots := 0, locals := 68 } : Room) s m args below meth c H locs 0 0 Q (F0 m 0 ls []) := by
  obtain ⟨hx, hb, hml, hown, hts⟩ := C
  intro H locs ls hP hD hS hl
  rw [f_X10_total] at h
  refine lv_iconst (v := 0) hx hb dX10_total_0 (by decide) ?_
  refine lv_istore_n (lv' := [(2, .int (0 : Int32)), (0, .ref q_t), (1, .int a1)]) hx hb dX10_total_1 rfl hl (by decide) rfl (fun ls hl => ?_)
  refine lv_iconst (v := 0) hx hb dX10_total_2 (by decide) ?_
  refine lv_istore_n (lv' := [(3, .int (0 : Int32)), (2, .int (0 : Int32)), (0, .ref q_t), (1, .int a1)]) hx hb dX10_total_3 rfl hl (by decide) rfl (fun ls hl => ?_)
  refine lv_iconst (v := 0) hx hb dX10_total_4 (by decide) ?_
  refine lv_istore (lv' := [(4, .int (0 : Int32)), (3, .int (0 : Int32)), (2, .int (0 : Int32)), (0, .ref q_t), (1, .int a1)]) hx hb dX10_total_5 hl (by decide) rfl (fun ls hl => ?_)
  obtain ⟨⟨x2_9, x3_10⟩, hz_12, h⟩ := bd_ok h
  refine l_X10_total_1 ⟨hx, hb, hml, hown, hts⟩ G hK hA q_t q_t_z q_t_old q_t_past q_t_kept q_t_text q_t_order q_t_told q_t_rowsTaken q_t_columnsTaken q_t_ways q_t_scaled q_t_rowFactors q_t_columnFactors q_t_rest q_t_diagonals q_t_weights a1 t_states t_isKept t_length t_spot t_toldRows t_z x2_9 x3_10 ?_ FU (0 : Int32) (0 : Int32) (0 : Int32) hz_12 H locs ls hP hD hS (lv_sub hl [3, 4, 2, 1, 0] rfl)
  intro H locs ls hP hD hS hl
  refine lv_iload_n hx hb dX10_total_48 rfl (lv_at hl 1 rfl) ?_
  by_cases hc0 : a1 = (0 : Int32)
  · replace h := it_t h hc0
    refine lv_tableIn (tgt := 100) hx hb dX10_total_49 (by rw [hc0]; decide) (by rw [hc0]; decide) (by rw [hc0]; rfl) (by decide) ?_
    refine lv_aload_n hx hb dX10_total_100 rfl (lv_at hl 0 rfl) ?_
    refine va_get (D := G.1) (ci := 9) (v := .ref q_t_z) (C := RX10) (T := TX10) (N := 21) hx hb hts wi_X10_total_X10 hown hK hP 0 rfl rfl 0 (by decide) (hts _ wd_X10_total_1) (fun _ h9 => h9) rfl dX10_total_101 ?_
    refine lv_bipush (v := 49) hx hb dX10_total_104 (by decide) ?_
    obtain ⟨g_13, h⟩ := gd_ok h
    refine va_iald (D := G.1) hx hb hK hP 1 0 rfl rfl g_13 dX10_total_106 ?_
    obtain rfl := sm1 h
    exact KR H locs ls 107 dX10_total_107 hP hD hS
  replace h := it_f h hc0
  by_cases hc1 : a1 = (1 : Int32)
  · replace h := it_t h hc1
    refine lv_tableIn (tgt := 108) hx hb dX10_total_49 (by rw [hc1]; decide) (by rw [hc1]; decide) (by rw [hc1]; rfl) (by decide) ?_
    refine lv_iload_n hx hb dX10_total_108 rfl (lv_at hl 2 rfl) ?_
    obtain rfl := sm1 h
    exact KR H locs ls 109 dX10_total_109 hP hD hS
  replace h := it_f h hc1
  by_cases hc2 : a1 = (2 : Int32)
  · replace h := it_t h hc2
    refine lv_tableIn (tgt := 110) hx hb dX10_total_49 (by rw [hc2]; decide) (by rw [hc2]; decide) (by rw [hc2]; rfl) (by decide) ?_
    refine lv_iload_n hx hb dX10_total_110 rfl (lv_at hl 3 rfl) ?_
    obtain rfl := sm1 h
    exact KR H locs ls 111 dX10_total_111 hP hD hS
  replace h := it_f h hc2
  by_cases hc3 : a1 = (3 : Int32)
  · replace h := it_t h hc3
    refine lv_tableIn (tgt := 112) hx hb dX10_total_49 (by rw [hc3]; decide) (by rw [hc3]; decide) (by rw [hc3]; rfl) (by decide) ?_
    refine lv_aload_n hx hb dX10_total_112 rfl (lv_at hl 0 rfl) ?_
    refine lv_iconst (v := 1) hx hb dX10_total_113 (by decide) ?_
    obtain ⟨r_14, hf_15, h⟩ := bd_ok h
    refine ck_Vi (rest := []) (wn := [(q_t, .inr (9, [.ref q_t_z, .ref q_t_old, .ref q_t_past, .int t_states, .ref q_t_kept, .int t_isKept, .ref q_t_text, .int t_length, .ref q_t_order, .ref q_t_told, .int t_spot, .int t_toldRows, .ref q_t_rowsTaken, .ref q_t_columnsTaken, .ref q_t_ways, .ref q_t_scaled, .ref q_t_rowFactors, .ref q_t_columnFactors, .ref q_t_rest, .ref q_t_diagonals, .ref q_t_weights])), (q_t_z, .inl (G.2 0, 50, .inl t_z))]) ⟨hx, hb, hml, hown, hts⟩ hK hP hD hS hA [0, 1] [] [0, 1] (c_X10_extreme l G q_t q_t_z q_t_old q_t_past q_t_kept q_t_text q_t_order q_t_told q_t_rowsTaken q_t_columnsTaken q_t_ways q_t_scaled q_t_rowFactors q_t_columnFactors q_t_rest q_t_diagonals q_t_weights _ t_states t_isKept t_length t_spot t_toldRows t_z (1 : Int32) _ hf_15) (cwV 1 hts gX10_total_X10_extreme rfl rfl rfl (by decide +kernel) ⟨Nat.le_of_ble_eq_true rfl, Nat.le_of_ble_eq_true rfl⟩) rfl rfl rfl rfl rfl rfl (by decide) rfl rfl rfl hl.1 rfl (Nat.le_of_ble_eq_true rfl) dX10_total_114 ⟨Nat.zero_le _, Nat.zero_le _⟩ (fun H locs hP hD hS => ?_)
    obtain rfl := sm1 h
    exact KR H locs ls 117 dX10_total_117 hP hD hS
  replace h := it_f h hc3
  by_cases hc4 : a1 = (4 : Int32)
  · replace h := it_t h hc4
    refine lv_tableIn (tgt := 118) hx hb dX10_total_49 (by rw [hc4]; decide) (by rw [hc4]; decide) (by rw [hc4]; rfl) (by decide) ?_
    refine lv_aload_n hx hb dX10_total_118 rfl (lv_at hl 0 rfl) ?_
    refine lv_iconst (v := 0) hx hb dX10_total_119 (by decide) ?_
    obtain ⟨r_16, hf_17, h⟩ := bd_ok h
    refine ck_Vi (rest := []) (wn := [(q_t, .inr (9, [.ref q_t_z, .ref q_t_old, .ref q_t_past, .int t_states, .ref q_t_kept, .int t_isKept, .ref q_t_text, .int t_length, .ref q_t_order, .ref q_t_told, .int t_spot, .int t_toldRows, .ref q_t_rowsTaken, .ref q_t_columnsTaken, .ref q_t_ways, .ref q_t_scaled, .ref q_t_rowFactors, .ref q_t_columnFactors, .ref q_t_rest, .ref q_t_diagonals, .ref q_t_weights])), (q_t_z, .inl (G.2 0, 50, .inl t_z))]) ⟨hx, hb, hml, hown, hts⟩ hK hP hD hS hA [0, 1] [] [0, 1] (c_X10_extreme l G q_t q_t_z q_t_old q_t_past q_t_kept q_t_text q_t_order q_t_told q_t_rowsTaken q_t_columnsTaken q_t_ways q_t_scaled q_t_rowFactors q_t_columnFactors q_t_rest q_t_diagonals q_t_weights _ t_states t_isKept t_length t_spot t_toldRows t_z (0 : Int32) _ hf_17) (cwV 1 hts gX10_total_X10_extreme rfl rfl rfl (by decide +kernel) ⟨Nat.le_of_ble_eq_true rfl, Nat.le_of_ble_eq_true rfl⟩) rfl rfl rfl rfl rfl rfl (by decide) rfl rfl rfl hl.1 rfl (Nat.le_of_ble_eq_true rfl) dX10_total_120 ⟨Nat.zero_le _, Nat.zero_le _⟩ (fun H locs hP hD hS => ?_)
    obtain rfl := sm1 h
    exact KR H locs ls 123 dX10_total_123 hP hD hS
  replace h := it_f h hc4
  by_cases hc5 : a1 = (5 : Int32)
  · replace h := it_t h hc5
    refine lv_tableIn (tgt := 124) hx hb dX10_total_49 (by rw [hc5]; decide) (by rw [hc5]; decide) (by rw [hc5]; rfl) (by decide) ?_
    refine lv_aload_n hx hb dX10_total_124 rfl (lv_at hl 0 rfl) ?_
    obtain ⟨r_18, hf_19, h⟩ := bd_ok h
    refine ck_Vi (rest := []) (wn := [(q_t, .inr (9, [.ref q_t_z, .ref q_t_old, .ref q_t_past, .int t_states, .ref q_t_kept, .int t_isKept, .ref q_t_text, .int t_length, .ref q_t_order, .ref q_t_told, .int t_spot, .int t_toldRows, .ref q_t_rowsTaken, .ref q_t_columnsTaken, .ref q_t_ways, .ref q_t_scaled, .ref q_t_rowFactors, .ref q_t_columnFactors, .ref q_t_rest, .ref q_t_diagonals, .ref q_t_weights])), (q_t_z, .inl (G.2 0, 50, .inl t_z))]) ⟨hx, hb, hml, hown, hts⟩ hK hP hD hS hA [0, 1] [] [0, 1] (c_X10_isSymmetric l G q_t q_t_z q_t_old q_t_past q_t_kept q_t_text q_t_order q_t_told q_t_rowsTaken q_t_columnsTaken q_t_ways q_t_scaled q_t_rowFactors q_t_columnFactors q_t_rest q_t_diagonals q_t_weights _ t_states t_isKept t_length t_spot t_toldRows t_z _ hf_19) (cwV 0 hts gX10_total_X10_isSymmetric rfl rfl rfl (by decide +kernel) ⟨Nat.le_of_ble_eq_true rfl, Nat.le_of_ble_eq_true rfl⟩) rfl rfl rfl rfl rfl rfl (by decide) rfl rfl rfl hl.1 rfl (Nat.le_of_ble_eq_true rfl) dX10_total_125 ⟨Nat.zero_le _, Nat.zero_le _⟩ (fun H locs hP hD hS => ?_)
    refine lv_if_eq (tgt := 135) hx hb dX10_total_128 (by decide) (fun c_20 => ?_) (fun c_20 => ?_)
    · replace h := it_t h c_20
      refine lv_iconst (v := 0) hx hb dX10_total_135 (by decide) ?_
      obtain rfl := sm1 h
      exact KR H locs ls 136 dX10_total_136 hP hD hS
    · replace h := it_f h c_20
      refine lv_iconst (v := 1) hx hb dX10_total_131 (by decide) ?_
      refine lv_goto (tgt := 136) hx hb dX10_total_132 (by decide) ?_
      obtain rfl := sm1 h
      exact KR H locs ls 136 dX10_total_136 hP hD hS
  replace h := it_f h hc5
  by_cases hc6 : a1 = (6 : Int32)
  · replace h := it_t h hc6
    refine lv_tableIn (tgt := 137) hx hb dX10_total_49 (by rw [hc6]; decide) (by rw [hc6]; decide) (by rw [hc6]; rfl) (by decide) ?_
    refine lv_aload_n hx hb dX10_total_137 rfl (lv_at hl 0 rfl) ?_
    obtain ⟨r_21, hf_22, h⟩ := bd_ok h
    refine ck_Vi (rest := []) (wn := [(q_t, .inr (9, [.ref q_t_z, .ref q_t_old, .ref q_t_past, .int t_states, .ref q_t_kept, .int t_isKept, .ref q_t_text, .int t_length, .ref q_t_order, .ref q_t_told, .int t_spot, .int t_toldRows, .ref q_t_rowsTaken, .ref q_t_columnsTaken, .ref q_t_ways, .ref q_t_scaled, .ref q_t_rowFactors, .ref q_t_columnFactors, .ref q_t_rest, .ref q_t_diagonals, .ref q_t_weights])), (q_t_z, .inl (G.2 0, 50, .inl t_z))]) ⟨hx, hb, hml, hown, hts⟩ hK hP hD hS hA [0, 1] [] [0, 1] (c_X10_areSumsLike l G q_t q_t_z q_t_old q_t_past q_t_kept q_t_text q_t_order q_t_told q_t_rowsTaken q_t_columnsTaken q_t_ways q_t_scaled q_t_rowFactors q_t_columnFactors q_t_rest q_t_diagonals q_t_weights _ t_states t_isKept t_length t_spot t_toldRows t_z _ hf_22) (cwV 0 hts gX10_total_X10_areSumsLike rfl rfl rfl (by decide +kernel) ⟨Nat.le_of_ble_eq_true rfl, Nat.le_of_ble_eq_true rfl⟩) rfl rfl rfl rfl rfl rfl (by decide) rfl rfl rfl hl.1 rfl (Nat.le_of_ble_eq_true rfl) dX10_total_138 ⟨Nat.zero_le _, Nat.zero_le _⟩ (fun H locs hP hD hS => ?_)
    refine lv_if_eq (tgt := 148) hx hb dX10_total_141 (by decide) (fun c_23 => ?_) (fun c_23 => ?_)
    · replace h := it_t h c_23
      refine lv_iconst (v := 0) hx hb dX10_total_148 (by decide) ?_
      obtain rfl := sm1 h
      exact KR H locs ls 149 dX10_total_149 hP hD hS
    · replace h := it_f h c_23
      refine lv_iconst (v := 1) hx hb dX10_total_144 (by decide) ?_
      refine lv_goto (tgt := 149) hx hb dX10_total_145 (by decide) ?_
      obtain rfl := sm1 h
      exact KR H locs ls 149 dX10_total_149 hP hD hS
  replace h := it_f h hc6
  by_cases hc7 : a1 = (7 : Int32)
  · replace h := it_t h hc7
    refine lv_tableIn (tgt := 150) hx hb dX10_total_49 (by rw [hc7]; decide) (by rw [hc7]; decide) (by rw [hc7]; rfl) (by decide) ?_
    refine lv_aload_n hx hb dX10_total_150 rfl (lv_at hl 0 rfl) ?_
    refine va_get (D := G.1) (ci := 9) (v := .int t_states) (C := RX10) (T := TX10) (N := 21) hx hb hts wi_X10_total_X10 hown hK hP 0 rfl rfl 3 (by decide) (hts _ wd_X10_total_2) (fun _ h9 => h9) rfl dX10_total_151 ?_
    obtain rfl := sm1 h
    exact KR H locs ls 154 dX10_total_154 hP hD hS
  replace h := it_f h hc7
  by_cases hc8 : a1 = (8 : Int32)
  · replace h := it_t h hc8
    refine lv_tableIn (tgt := 155) hx hb dX10_total_49 (by rw [hc8]; decide) (by rw [hc8]; decide) (by rw [hc8]; rfl) (by decide) ?_
    refine lv_aload_n hx hb dX10_total_155 rfl (lv_at hl 0 rfl) ?_
    refine va_get (D := G.1) (ci := 9) (v := .int t_length) (C := RX10) (T := TX10) (N := 21) hx hb hts wi_X10_total_X10 hown hK hP 0 rfl rfl 7 (by decide) (hts _ wd_X10_total_3) (fun _ h9 => h9) rfl dX10_total_156 ?_
    obtain rfl := sm1 h
    exact KR H locs ls 159 dX10_total_159 hP hD hS
  replace h := it_f h hc8
  refine lv_tableOut (tgt := 160) hx hb dX10_total_49 (by first | exact tsw_out8 hc0 hc1 hc2 hc3 hc4 hc5 hc6 hc7 hc8) (by decide) ?_
  refine lv_ldc (v := -2000000002) hx hb hown (hts _ wd_X10_total_4) dX10_total_160 ?_
  obtain rfl := sm1 h
  exact KR H locs ls 162 dX10_total_162 hP hD hS
set_option maxHeartbeats 4000000 in
set_option maxRecDepth 100000 in
theorem c_X10_total (l : Launch) (G : GT) (q_t q_t_z q_t_old q_t_past q_t_kept q_t_text q_t_order q_t_told q_t_rowsTaken q_t_columnsTaken q_t_ways q_t_scaled q_t_rowFactors q_t_columnFactors q_t_rest q_t_diagonals q_t_weights : Nat) (sz : Nat) (t_states : Int32) (t_isKept : Int32) (t_length : Int32) (t_spot : Int32) (t_toldRows : Int32) (t_z : Nat → Int32) (a1 : Int32) (r : Int32) (h : f_X10_total t_states t_length t_z a1 = some r) : Met l yX10_total wsX10_total ({ frames := 3, cells := 0, slots := 0, locals := 68 } : Room) (va_Pc [.ref q_t, .int a1] (pcW G [(q_t, .inr (9, [.ref q_t_z, .ref q_t_old, .ref q_t_past, .int t_states, .ref q_t_kept, .int t_isKept, .ref q_t_text, .int t_length, .ref q_t_order, .ref q_t_told, .int t_spot, .int t_toldRows, .ref q_t_rowsTaken, .ref q_t_columnsTaken, .ref q_t_ways, .ref q_t_scaled, .ref q_t_rowFactors, .ref q_t_columnFactors, .ref q_t_rest, .ref q_t_diagonals, .ref q_t_weights])), (q_t_z, .inl (G.2 0, 50, .inl t_z))] sz)) (va_Qi (fun r9 (_ : Unit) => r9 = r) (fun _ t => atW G (va_A [(q_t, .inr (9, [.ref q_t_z, .ref q_t_old, .ref q_t_past, .int t_states, .ref q_t_kept, .int t_isKept, .ref q_t_text, .int t_length, .ref q_t_order, .ref q_t_told, .int t_spot, .int t_toldRows, .ref q_t_rowsTaken, .ref q_t_columnsTaken, .ref q_t_ways, .ref q_t_scaled, .ref q_t_rowFactors, .ref q_t_columnFactors, .ref q_t_rest, .ref q_t_diagonals, .ref q_t_weights])), (q_t_z, .inl (G.2 0, 50, .inl t_z))] sz) [(q_t, .inr (9, [.ref q_t_z, .ref q_t_old, .ref q_t_past, .int t_states, .ref q_t_kept, .int t_isKept, .ref q_t_text, .int t_length, .ref q_t_order, .ref q_t_told, .int t_spot, .int t_toldRows, .ref q_t_rowsTaken, .ref q_t_columnsTaken, .ref q_t_ways, .ref q_t_scaled, .ref q_t_rowFactors, .ref q_t_columnFactors, .ref q_t_rest, .ref q_t_diagonals, .ref q_t_weights])), (q_t_z, .inl (G.2 0, 50, .inl t_z))] t) (va_A [(q_t, .inr (9, [.ref q_t_z, .ref q_t_old, .ref q_t_past, .int t_states, .ref q_t_kept, .int t_isKept, .ref q_t_text, .int t_length, .ref q_t_order, .ref q_t_told, .int t_spot, .int t_toldRows, .ref q_t_rowsTaken, .ref q_t_columnsTaken, .ref q_t_ways, .ref q_t_scaled, .ref q_t_rowFactors, .ref q_t_columnFactors, .ref q_t_rest, .ref q_t_diagonals, .ref q_t_weights])), (q_t_z, .inl (G.2 0, 50, .inl t_z))] sz)) 0 0 (va_A [(q_t, .inr (9, [.ref q_t_z, .ref q_t_old, .ref q_t_past, .int t_states, .ref q_t_kept, .int t_isKept, .ref q_t_text, .int t_length, .ref q_t_order, .ref q_t_told, .int t_spot, .int t_toldRows, .ref q_t_rowsTaken, .ref q_t_columnsTaken, .ref q_t_ways, .ref q_t_scaled, .ref q_t_rowFactors, .ref q_t_columnFactors, .ref q_t_rest, .ref q_t_diagonals, .ref q_t_weights])), (q_t_z, .inl (G.2 0, 50, .inl t_z))] sz) := by
  refine Met.ofW (cc := cX10_total) (maxL := 5) (ret := (some .int)) (by decide) rfl ?_
  intro p e s m args below meth c s₁ B hml hv
  obtain ⟨rfl, hsz, hP, hK, hD0⟩ := hv
  subst hsz
  have hD := hD0.self (sz := s.heap.size)
  generalize hAe : va_A [(q_t, .inr (9, [.ref q_t_z, .ref q_t_old, .ref q_t_past, .int t_states, .ref q_t_kept, .int t_isKept, .ref q_t_text, .int t_length, .ref q_t_order, .ref q_t_told, .int t_spot, .int t_toldRows, .ref q_t_rowsTaken, .ref q_t_columnsTaken, .ref q_t_ways, .ref q_t_scaled, .ref q_t_rowFactors, .ref q_t_columnFactors, .ref q_t_rest, .ref q_t_diagonals, .ref q_t_weights])), (q_t_z, .inl (G.2 0, 50, .inl t_z))] s.heap.size = A at hD ⊢
  have hA : ∀ q : Nat, s.heap.size ≤ q → A q := fun q h => by rw [← hAe]; exact Or.inr h
  have hl := lv_entry ([.ref q_t, .int a1]) (n := 5) (Nat.le_of_ble_eq_true rfl)
  rw [lg_entry_eq]
  refine k_X10_total ⟨B.exec, B.bytes, hml, findClass_of_methodNamed B.named, atoms_spec (ws := wsX10_total) B.pre⟩ G hK hA q_t q_t_z q_t_old q_t_past q_t_kept q_t_text q_t_order q_t_told q_t_rowsTaken q_t_columnsTaken q_t_ways q_t_scaled q_t_rowFactors q_t_columnFactors q_t_rest q_t_diagonals q_t_weights _ _ _ _ _ _ _ _ h ?_ _ _ _ hP hD va_S.rf hl
  intro H locs ls pc hd hP hD hS
  exact W.iret B.exec B.bytes B.returns (fun t ht hW => ⟨⟨r, (), rfl, rfl, by rw [ht]; exact hP, hD⟩, hS.F ht⟩) hS.2.2 hd B.notSynchronized
set_option maxRecDepth 20000 in
theorem wd_X10_lineSum_1 : Cond.constant RX10 92 (-2000000001) ∈ wsX10_lineSum := List.mem_of_getElem? (i := 1) (by decide +kernel)
def f_X10_lineSum (t_z : Nat → Int32) (a1 : Int32) (a2 : Int32) : Option Int32 :=
  (f_X10_isLine t_z a1).bind (fun r_1 =>
  if r_1 = 0 then
    some (-2000000001 : Int32)
  else
    (f_X10_sumOfLine t_z a1 a2).bind (fun r_4 =>
    some r_4))
set_option maxHeartbeats 4000000 in
set_option maxRecDepth 100000 in
theorem k_X10_lineSum {p : Program} {l : Launch} {e : Env} {s : State} {m : MethodId} {args : Array Value} {below : List Frame} {meth : Method} {c : Code} {Q : State → Prop} {A0 : Nat → Prop} {H0 : Heap} (C : CallFix p m c cX10_lineSum 3 s args wsX10_lineSum RX10) (G : GT) (hK : gK G s) (hA : ∀ q : Nat, H0.size ≤ q → A0 q) (q_t q_t_z q_t_old q_t_past q_t_kept q_t_text q_t_order q_t_told q_t_rowsTaken q_t_columnsTaken q_t_ways q_t_scaled q_t_rowFactors q_t_columnFactors q_t_rest q_t_diagonals q_t_weights : Nat) (t_states : Int32) (t_isKept : Int32) (t_length : Int32) (t_spot : Int32) (t_toldRows : Int32) (t_z : Nat → Int32) (a1 : Int32) (a2 : Int32) (r : Int32) (h : f_X10_lineSum t_z a1 a2 = some r) (KR : ∀ (H : Heap) (locs : List Loc) (ls : Array Slot) (pc : Nat), decode cX10_lineSum pc = .ok (.ireturn, 1) → va_P G.1 vwCl [(q_t, .inr (9, [.ref q_t_z, .ref q_t_old, .ref q_t_past, .int t_states, .ref q_t_kept, .int t_isKept, .ref q_t_text, .int t_length, .ref q_t_order, .ref q_t_told, .int t_spot, .int t_toldRows, .ref q_t_rowsTaken, .ref q_t_columnsTaken, .ref q_t_ways, .ref q_t_scaled, .ref q_t_rowFactors, .ref q_t_columnFactors, .ref q_t_rest, .ref q_t_diagonals, .ref q_t_weights])), (q_t_z, .inl (G.2 0, 50, .inl t_z))] H → va_D A0 [(q_t, .inr (9, [.ref q_t_z, .ref q_t_old, .ref q_t_past, .int t_states, .ref q_t_kept, .int t_isKept, .ref q_t_text, .int t_length, .ref q_t_order, .ref q_t_told, .int t_spot, .int t_toldRows, .ref q_t_rowsTaken, .ref q_t_columnsTaken, .ref q_t_ways, .ref q_t_scaled, .ref q_t_rowFactors, .ref q_t_columnFactors, .ref q_t_rest, .ref q_t_diagonals, .ref q_t_weights])), (q_t_z, .inl (G.2 0, 50, .inl t_z))] → va_S A0 H0 H locs → W p l e ({ frames := 2, cells := 0, slots := 0, locals := 46 } : Room) s m args below meth c H locs 0 0 Q (F0 m pc ls [.int r])) : ∀ (H : Heap) (locs : List Loc) (ls : Array Slot), va_P G.1 vwCl [(q_t, .inr (9, [.ref q_t_z, .ref q_t_old, .ref q_t_past, .int t_states, .ref q_t_kept, .int t_isKept, .ref q_t_text, .int t_length, .ref q_t_order, .ref q_t_told, .int t_spot, .int t_toldRows, .ref q_t_rowsTaken, .ref q_t_columnsTaken, .ref q_t_ways, .ref q_t_scaled, .ref q_t_rowFactors, .ref q_t_columnFactors, .ref q_t_rest, .ref q_t_diagonals, .ref q_t_weights])), (q_t_z, .inl (G.2 0, 50, .inl t_z))] H → va_D A0 [(q_t, .inr (9, [.ref q_t_z, .ref q_t_old, .ref q_t_past, .int t_states, .ref q_t_kept, .int t_isKept, .ref q_t_text, .int t_length, .ref q_t_order, .ref q_t_told, .int t_spot, .int t_toldRows, .ref q_t_rowsTaken, .ref q_t_columnsTaken, .ref q_t_ways, .ref q_t_scaled, .ref q_t_rowFactors, .ref q_t_columnFactors, .ref q_t_rest, .ref q_t_diagonals, .ref q_t_weights])), (q_t_z, .inl (G.2 0, 50, .inl t_z))] → va_S A0 H0 H locs → lv_has ls 3 [(0, .ref q_t), (1, .int a1), (2, .int a2)] → W p l e ({ frames := 2, cells := 0, slots := 0, locals := 46 } : Room) s m args below meth c H locs 0 0 Q (F0 m 0 ls []) := by
  obtain ⟨hx, hb, hml, hown, hts⟩ := C
  intro H locs ls hP hD hS hl
  rw [f_X10_lineSum] at h
  refine lv_aload_n hx hb dX10_lineSum_0 rfl (lv_at hl 0 rfl) ?_
  refine lv_iload_n hx hb dX10_lineSum_1 rfl (lv_at hl 1 rfl) ?_
  obtain ⟨r_1, hf_2, h⟩ := bd_ok h
  refine ck_Vi (rest := []) (wn := [(q_t, .inr (9, [.ref q_t_z, .ref q_t_old, .ref q_t_past, .int t_states, .ref q_t_kept, .int t_isKept, .ref q_t_text, .int t_length, .ref q_t_order, .ref q_t_told, .int t_spot, .int t_toldRows, .ref q_t_rowsTaken, .ref q_t_columnsTaken, .ref q_t_ways, .ref q_t_scaled, .ref q_t_rowFactors, .ref q_t_columnFactors, .ref q_t_rest, .ref q_t_diagonals, .ref q_t_weights])), (q_t_z, .inl (G.2 0, 50, .inl t_z))]) ⟨hx, hb, hml, hown, hts⟩ hK hP hD hS hA [0, 1] [] [0, 1] (c_X10_isLine l G q_t q_t_z q_t_old q_t_past q_t_kept q_t_text q_t_order q_t_told q_t_rowsTaken q_t_columnsTaken q_t_ways q_t_scaled q_t_rowFactors q_t_columnFactors q_t_rest q_t_diagonals q_t_weights _ t_states t_isKept t_length t_spot t_toldRows t_z a1 _ hf_2) (cwV 1 hts gX10_lineSum_X10_isLine rfl rfl rfl (by decide +kernel) ⟨Nat.le_of_ble_eq_true rfl, Nat.le_of_ble_eq_true rfl⟩) rfl rfl rfl rfl rfl rfl (by decide) rfl rfl rfl hl.1 rfl (Nat.le_of_ble_eq_true rfl) dX10_lineSum_2 ⟨Nat.zero_le _, Nat.zero_le _⟩ (fun H locs hP hD hS => ?_)
  refine lv_if_eq (tgt := 17) hx hb dX10_lineSum_5 (by decide) (fun c_3 => ?_) (fun c_3 => ?_)
  · replace h := it_t h c_3
    refine lv_ldc (v := -2000000001) hx hb hown (hts _ wd_X10_lineSum_1) dX10_lineSum_17 ?_
    obtain rfl := sm1 h
    exact KR H locs ls 19 dX10_lineSum_19 hP hD hS
  · replace h := it_f h c_3
    refine lv_aload_n hx hb dX10_lineSum_8 rfl (lv_at hl 0 rfl) ?_
    refine lv_iload_n hx hb dX10_lineSum_9 rfl (lv_at hl 1 rfl) ?_
    refine lv_iload_n hx hb dX10_lineSum_10 rfl (lv_at hl 2 rfl) ?_
    obtain ⟨r_4, hf_5, h⟩ := bd_ok h
    refine ck_Vi (rest := []) (wn := [(q_t, .inr (9, [.ref q_t_z, .ref q_t_old, .ref q_t_past, .int t_states, .ref q_t_kept, .int t_isKept, .ref q_t_text, .int t_length, .ref q_t_order, .ref q_t_told, .int t_spot, .int t_toldRows, .ref q_t_rowsTaken, .ref q_t_columnsTaken, .ref q_t_ways, .ref q_t_scaled, .ref q_t_rowFactors, .ref q_t_columnFactors, .ref q_t_rest, .ref q_t_diagonals, .ref q_t_weights])), (q_t_z, .inl (G.2 0, 50, .inl t_z))]) ⟨hx, hb, hml, hown, hts⟩ hK hP hD hS hA [0, 1] [] [0, 1] (c_X10_sumOfLine l G q_t q_t_z q_t_old q_t_past q_t_kept q_t_text q_t_order q_t_told q_t_rowsTaken q_t_columnsTaken q_t_ways q_t_scaled q_t_rowFactors q_t_columnFactors q_t_rest q_t_diagonals q_t_weights _ t_states t_isKept t_length t_spot t_toldRows t_z a1 a2 _ hf_5) (cwV 2 hts gX10_lineSum_X10_sumOfLine rfl rfl rfl (by decide +kernel) ⟨Nat.le_of_ble_eq_true rfl, Nat.le_of_ble_eq_true rfl⟩) rfl rfl rfl rfl rfl rfl (by decide) rfl rfl rfl hl.1 rfl (Nat.le_of_ble_eq_true rfl) dX10_lineSum_11 ⟨Nat.zero_le _, Nat.zero_le _⟩ (fun H locs hP hD hS => ?_)
    refine lv_goto (tgt := 19) hx hb dX10_lineSum_14 (by decide) ?_
    obtain rfl := sm1 h
    exact KR H locs ls 19 dX10_lineSum_19 hP hD hS
set_option maxHeartbeats 4000000 in
set_option maxRecDepth 100000 in
theorem c_X10_lineSum (l : Launch) (G : GT) (q_t q_t_z q_t_old q_t_past q_t_kept q_t_text q_t_order q_t_told q_t_rowsTaken q_t_columnsTaken q_t_ways q_t_scaled q_t_rowFactors q_t_columnFactors q_t_rest q_t_diagonals q_t_weights : Nat) (sz : Nat) (t_states : Int32) (t_isKept : Int32) (t_length : Int32) (t_spot : Int32) (t_toldRows : Int32) (t_z : Nat → Int32) (a1 : Int32) (a2 : Int32) (r : Int32) (h : f_X10_lineSum t_z a1 a2 = some r) : Met l yX10_lineSum wsX10_lineSum ({ frames := 2, cells := 0, slots := 0, locals := 46 } : Room) (va_Pc [.ref q_t, .int a1, .int a2] (pcW G [(q_t, .inr (9, [.ref q_t_z, .ref q_t_old, .ref q_t_past, .int t_states, .ref q_t_kept, .int t_isKept, .ref q_t_text, .int t_length, .ref q_t_order, .ref q_t_told, .int t_spot, .int t_toldRows, .ref q_t_rowsTaken, .ref q_t_columnsTaken, .ref q_t_ways, .ref q_t_scaled, .ref q_t_rowFactors, .ref q_t_columnFactors, .ref q_t_rest, .ref q_t_diagonals, .ref q_t_weights])), (q_t_z, .inl (G.2 0, 50, .inl t_z))] sz)) (va_Qi (fun r9 (_ : Unit) => r9 = r) (fun _ t => atW G (va_A [(q_t, .inr (9, [.ref q_t_z, .ref q_t_old, .ref q_t_past, .int t_states, .ref q_t_kept, .int t_isKept, .ref q_t_text, .int t_length, .ref q_t_order, .ref q_t_told, .int t_spot, .int t_toldRows, .ref q_t_rowsTaken, .ref q_t_columnsTaken, .ref q_t_ways, .ref q_t_scaled, .ref q_t_rowFactors, .ref q_t_columnFactors, .ref q_t_rest, .ref q_t_diagonals, .ref q_t_weights])), (q_t_z, .inl (G.2 0, 50, .inl t_z))] sz) [(q_t, .inr (9, [.ref q_t_z, .ref q_t_old, .ref q_t_past, .int t_states, .ref q_t_kept, .int t_isKept, .ref q_t_text, .int t_length, .ref q_t_order, .ref q_t_told, .int t_spot, .int t_toldRows, .ref q_t_rowsTaken, .ref q_t_columnsTaken, .ref q_t_ways, .ref q_t_scaled, .ref q_t_rowFactors, .ref q_t_columnFactors, .ref q_t_rest, .ref q_t_diagonals, .ref q_t_weights])), (q_t_z, .inl (G.2 0, 50, .inl t_z))] t) (va_A [(q_t, .inr (9, [.ref q_t_z, .ref q_t_old, .ref q_t_past, .int t_states, .ref q_t_kept, .int t_isKept, .ref q_t_text, .int t_length, .ref q_t_order, .ref q_t_told, .int t_spot, .int t_toldRows, .ref q_t_rowsTaken, .ref q_t_columnsTaken, .ref q_t_ways, .ref q_t_scaled, .ref q_t_rowFactors, .ref q_t_columnFactors, .ref q_t_rest, .ref q_t_diagonals, .ref q_t_weights])), (q_t_z, .inl (G.2 0, 50, .inl t_z))] sz)) 0 0 (va_A [(q_t, .inr (9, [.ref q_t_z, .ref q_t_old, .ref q_t_past, .int t_states, .ref q_t_kept, .int t_isKept, .ref q_t_text, .int t_length, .ref q_t_order, .ref q_t_told, .int t_spot, .int t_toldRows, .ref q_t_rowsTaken, .ref q_t_columnsTaken, .ref q_t_ways, .ref q_t_scaled, .ref q_t_rowFactors, .ref q_t_columnFactors, .ref q_t_rest, .ref q_t_diagonals, .ref q_t_weights])), (q_t_z, .inl (G.2 0, 50, .inl t_z))] sz) := by
  refine Met.ofW (cc := cX10_lineSum) (maxL := 3) (ret := (some .int)) (by decide) rfl ?_
  intro p e s m args below meth c s₁ B hml hv
  obtain ⟨rfl, hsz, hP, hK, hD0⟩ := hv
  subst hsz
  have hD := hD0.self (sz := s.heap.size)
  generalize hAe : va_A [(q_t, .inr (9, [.ref q_t_z, .ref q_t_old, .ref q_t_past, .int t_states, .ref q_t_kept, .int t_isKept, .ref q_t_text, .int t_length, .ref q_t_order, .ref q_t_told, .int t_spot, .int t_toldRows, .ref q_t_rowsTaken, .ref q_t_columnsTaken, .ref q_t_ways, .ref q_t_scaled, .ref q_t_rowFactors, .ref q_t_columnFactors, .ref q_t_rest, .ref q_t_diagonals, .ref q_t_weights])), (q_t_z, .inl (G.2 0, 50, .inl t_z))] s.heap.size = A at hD ⊢
  have hA : ∀ q : Nat, s.heap.size ≤ q → A q := fun q h => by rw [← hAe]; exact Or.inr h
  have hl := lv_entry ([.ref q_t, .int a1, .int a2]) (n := 3) (Nat.le_of_ble_eq_true rfl)
  rw [lg_entry_eq]
  refine k_X10_lineSum ⟨B.exec, B.bytes, hml, findClass_of_methodNamed B.named, atoms_spec (ws := wsX10_lineSum) B.pre⟩ G hK hA q_t q_t_z q_t_old q_t_past q_t_kept q_t_text q_t_order q_t_told q_t_rowsTaken q_t_columnsTaken q_t_ways q_t_scaled q_t_rowFactors q_t_columnFactors q_t_rest q_t_diagonals q_t_weights _ _ _ _ _ _ _ _ _ h ?_ _ _ _ hP hD va_S.rf hl
  intro H locs ls pc hd hP hD hS
  exact W.iret B.exec B.bytes B.returns (fun t ht hW => ⟨⟨r, (), rfl, rfl, by rw [ht]; exact hP, hD⟩, hS.F ht⟩) hS.2.2 hd B.notSynchronized
