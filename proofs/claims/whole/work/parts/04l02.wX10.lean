set_option maxRecDepth 20000 in
theorem wd_X10_transpose_1 : Cond.fieldLink RX10 7 "PermanentDeskModel" "z" "[I" ∈ wsX10_transpose := List.mem_of_getElem? (i := 1) (by decide +kernel)
set_option maxRecDepth 20000 in
theorem wi_X10_transpose_X10 : ∀ w ∈ u_ws RX10 TX10 21, w ∈ wsX10_transpose := by decide +kernel
set_option maxRecDepth 20000 in
theorem wd_X10_transpose_2 : Cond.fieldLink RX10 13 "PermanentDeskModel" "old" "[I" ∈ wsX10_transpose := List.mem_of_getElem? (i := 2) (by decide +kernel)
def f_X10_transpose_L2 (x1 : Int32) (t_old : Nat → Int32) : (Int32 × (Nat → Int32)) → Option ((Int32 × (Nat → Int32)) ⊕ (Nat → Int32))
  | (x2, t_z) =>
    if (7 : Int32) ≤ x2 then
      some (.inr t_z)
    else
      gd (okI (((7 : Int32) * x2) + x1) 50) (
      gd (okI (((7 : Int32) * x1) + x2) 50) (
      pl ((upd t_z (((7 : Int32) * x1) + x2).toNatClampNeg (t_old (((7 : Int32) * x2) + x1).toNatClampNeg)) : Nat → Int32) (fun t_z_7 =>
      pl ((x2 + (1 : Int32)) : Int32) (fun x2_8 =>
      some (.inl (x2_8, t_z_7))))))
def f_X10_transpose_L1 (t_old : Nat → Int32) : (Int32 × (Nat → Int32)) → Option ((Int32 × (Nat → Int32)) ⊕ (Nat → Int32))
  | (x1, t_z) =>
    if (7 : Int32) ≤ x1 then
      some (.inr t_z)
    else
      (lpN (f_X10_transpose_L2 x1 t_old) FU ((0 : Int32), t_z)).bind (fun t_z_9 =>
      pl ((x1 + (1 : Int32)) : Int32) (fun x1_12 =>
      some (.inl (x1_12, t_z_9))))
def f_X10_transpose (t_states : Int32) (t_z : Nat → Int32) (t_old : Nat → Int32) (t_past : Nat → Int32) : Option (Int32 × Int32 × (Nat → Int32) × (Nat → Int32) × (Nat → Int32)) :=
  (f_X10_takeOld t_z t_old).bind (fun t_old_1 =>
  (lpN (f_X10_transpose_L1 t_old_1) FU ((0 : Int32), t_z)).bind (fun t_z_13 =>
  (f_X10_unlike t_states t_z_13 t_old_1 t_past).bind (fun (r_18, t_states_16, t_past_17) =>
  some (r_18, t_states_16, t_z_13, t_old_1, t_past_17))))
set_option maxHeartbeats 4000000 in
set_option maxRecDepth 100000 in
theorem l_X10_transpose_2 {p : Program} {l : Launch} {e : Env} {s : State} {m : MethodId} {args : Array Value} {below : List Frame} {meth : Method} {c : Code} {Q : State → Prop} {A0 : Nat → Prop} {H0 : Heap} (C : CallFix p m c cX10_transpose 3 s args wsX10_transpose RX10) (G : GT) (hK : gK G s) (hA : ∀ q : Nat, H0.size ≤ q → A0 q) (q_t q_t_z q_t_old q_t_past q_t_kept q_t_text q_t_order q_t_told q_t_rowsTaken q_t_columnsTaken q_t_ways q_t_scaled q_t_rowFactors q_t_columnFactors q_t_rest q_t_diagonals q_t_weights : Nat) (x1 : Int32) (t_states : Int32) (t_isKept : Int32) (t_length : Int32) (t_spot : Int32) (t_toldRows : Int32) (t_old : Nat → Int32) (t_past : Nat → Int32) (E_t_z : Nat → Int32) (K : ∀ (H : Heap) (locs : List Loc) (ls : Array Slot), va_P G.1 vwCl [(q_t, .inr (9, [.ref q_t_z, .ref q_t_old, .ref q_t_past, .int t_states, .ref q_t_kept, .int t_isKept, .ref q_t_text, .int t_length, .ref q_t_order, .ref q_t_told, .int t_spot, .int t_toldRows, .ref q_t_rowsTaken, .ref q_t_columnsTaken, .ref q_t_ways, .ref q_t_scaled, .ref q_t_rowFactors, .ref q_t_columnFactors, .ref q_t_rest, .ref q_t_diagonals, .ref q_t_weights])), (q_t_z, .inl (G.2 0, 50, .inl E_t_z)), (q_t_old, .inl (G.2 0, 50, .inl t_old)), (q_t_past, .inl (G.2 0, 200, .inl t_past))] H → va_D A0 [(q_t, .inr (9, [.ref q_t_z, .ref q_t_old, .ref q_t_past, .int t_states, .ref q_t_kept, .int t_isKept, .ref q_t_text, .int t_length, .ref q_t_order, .ref q_t_told, .int t_spot, .int t_toldRows, .ref q_t_rowsTaken, .ref q_t_columnsTaken, .ref q_t_ways, .ref q_t_scaled, .ref q_t_rowFactors, .ref q_t_columnFactors, .ref q_t_rest, .ref q_t_diagonals, .ref q_t_weights])), (q_t_z, .inl (G.2 0, 50, .inl E_t_z)), (q_t_old, .inl (G.2 0, 50, .inl t_old)), (q_t_past, .inl (G.2 0, 200, .inl t_past))] → va_S A0 H0 H locs → lv_has ls 3 [(0, .ref q_t), (1, .int x1)] → W p l e ({ frames := 3, cells := 0, slots := 0, locals := 68 } : Room) s m args below meth c H locs 0 0 Q (F0 m 48 ls [])) : ∀ (n : Nat) (x2 : Int32) (t_z : Nat → Int32), lpN (f_X10_transpose_L2 x1 t_old) n (x2, t_z) = some E_t_z → ∀ (H : Heap) (locs : List Loc) (ls : Array Slot), va_P G.1 vwCl [(q_t, .inr (9, [.ref q_t_z, .ref q_t_old, .ref q_t_past, .int t_states, .ref q_t_kept, .int t_isKept, .ref q_t_text, .int t_length, .ref q_t_order, .ref q_t_told, .int t_spot, .int t_toldRows, .ref q_t_rowsTaken, .ref q_t_columnsTaken, .ref q_t_ways, .ref q_t_scaled, .ref q_t_rowFactors, .ref q_t_columnFactors, .ref q_t_rest, .ref q_t_diagonals, .ref q_t_weights])), (q_t_z, .inl (G.2 0, 50, .inl t_z)), (q_t_old, .inl (G.2 0, 50, .inl t_old)), (q_t_past, .inl (G.2 0, 200, .inl t_past))] H → va_D A0 [(q_t, .inr (9, [.ref q_t_z, .ref q_t_old, .ref q_t_past, .int t_states, .ref q_t_kept, .int t_isKept, .ref q_t_text, .int t_length, .ref q_t_order, .ref q_t_told, .int t_spot, .int t_toldRows, .ref q_t_rowsTaken, .ref q_t_columnsTaken, .ref q_t_ways, .ref q_t_scaled, .ref q_t_rowFactors, .ref q_t_columnFactors, .ref q_t_rest, .ref q_t_diagonals, .ref q_t_weights])), (q_t_z, .inl (G.2 0, 50, .inl t_z)), (q_t_old, .inl (G.2 0, 50, .inl t_old)), (q_t_past, .inl (G.2 0, 200, .inl t_past))] → va_S A0 H0 H locs → lv_has ls 3 [(0, .ref q_t), (1, .int x1), (2, .int x2)] → W p l e ({ frames := 3, cells := 0, slots := 0, locals := 68 } : Room) s m args below meth c H locs 0 0 Q (F0 m 14 ls []) := by
  obtain ⟨hx, hb, hml, hown, hts⟩ := C
  intro n
  induction n with
  | zero => intro x2 t_z h; exact absurd h (fun h => lp_0 h)
  | succ n ih =>
    intro x2 t_z h H locs ls hP hD hS hl
    obtain ⟨y, h, hk⟩ := lp_s h
    rw [f_X10_transpose_L2] at h
    refine lv_iload_n hx hb dX10_transpose_14 rfl (lv_at hl 2 rfl) ?_
    refine lv_bipush (v := 7) hx hb dX10_transpose_15 (by decide) ?_
    refine lv_icmp_ge (tgt := 48) hx hb dX10_transpose_17 (by decide) (fun c_4 => ?_) (fun c_4 => ?_)
    · replace h := it_t h c_4
      obtain rfl := sm1 h
      obtain rfl := sm1 hk
      exact K H locs ls hP hD hS (lv_sub hl [0, 1] rfl)
    · replace h := it_f h c_4
      refine lv_aload_n hx hb dX10_transpose_20 rfl (lv_at hl 0 rfl) ?_
      refine va_get (D := G.1) (ci := 9) (v := .ref q_t_z) (C := RX10) (T := TX10) (N := 21) hx hb hts wi_X10_transpose_X10 hown hK hP 0 rfl rfl 0 (by decide) (hts _ wd_X10_transpose_1) (fun _ h9 => h9) rfl dX10_transpose_21 ?_
      refine lv_bipush (v := 7) hx hb dX10_transpose_24 (by decide) ?_
      refine lv_iload_n hx hb dX10_transpose_26 rfl (lv_at hl 1 rfl) ?_
      refine lv_imul hx hb dX10_transpose_27 ?_
      refine lv_iload_n hx hb dX10_transpose_28 rfl (lv_at hl 2 rfl) ?_
      refine lv_iadd hx hb dX10_transpose_29 ?_
      refine lv_aload_n hx hb dX10_transpose_30 rfl (lv_at hl 0 rfl) ?_
      refine va_get (D := G.1) (ci := 9) (v := .ref q_t_old) (C := RX10) (T := TX10) (N := 21) hx hb hts wi_X10_transpose_X10 hown hK hP 0 rfl rfl 1 (by decide) (hts _ wd_X10_transpose_2) (fun _ h9 => h9) rfl dX10_transpose_31 ?_
      refine lv_bipush (v := 7) hx hb dX10_transpose_34 (by decide) ?_
      refine lv_iload_n hx hb dX10_transpose_36 rfl (lv_at hl 2 rfl) ?_
      refine lv_imul hx hb dX10_transpose_37 ?_
      refine lv_iload_n hx hb dX10_transpose_38 rfl (lv_at hl 1 rfl) ?_
      refine lv_iadd hx hb dX10_transpose_39 ?_
      obtain ⟨g_5, h⟩ := gd_ok h
      refine va_iald (D := G.1) hx hb hK hP 2 0 rfl rfl g_5 dX10_transpose_40 ?_
      obtain ⟨g_6, h⟩ := gd_ok h
      obtain ⟨t_z_7, et_z_7, h⟩ := pl_ok h
      refine st_i (D := G.1) (wn := [(q_t, .inr (9, [.ref q_t_z, .ref q_t_old, .ref q_t_past, .int t_states, .ref q_t_kept, .int t_isKept, .ref q_t_text, .int t_length, .ref q_t_order, .ref q_t_told, .int t_spot, .int t_toldRows, .ref q_t_rowsTaken, .ref q_t_columnsTaken, .ref q_t_ways, .ref q_t_scaled, .ref q_t_rowFactors, .ref q_t_columnFactors, .ref q_t_rest, .ref q_t_diagonals, .ref q_t_weights])), (q_t_z, .inl (G.2 0, 50, .inl t_z_7)), (q_t_old, .inl (G.2 0, 50, .inl t_old)), (q_t_past, .inl (G.2 0, 200, .inl t_past))]) hx hb hK hP hD hS 1 0 rfl rfl g_6 dX10_transpose_41 et_z_7 rfl (fun H locs hP hD hS => ?_)
      obtain ⟨x2_8, ex2_8, h⟩ := pl_ok h
      refine lv_iinc (v := x2_8) (lv' := [(2, .int x2_8), (0, .ref q_t), (1, .int x1)]) hx hb dX10_transpose_42 hl (k := 2) rfl (by rw [ex2_8]; rfl) (by decide) rfl (fun ls hl => ?_)
      refine lv_goto (tgt := 14) hx hb dX10_transpose_45 (by decide) ?_
      obtain rfl := sm1 h
      exact ih x2_8 t_z_7 hk H locs ls hP hD hS (lv_sub hl [1, 2, 0] rfl)
set_option maxHeartbeats 4000000 in
set_option maxRecDepth 100000 in
theorem l_X10_transpose_1 {p : Program} {l : Launch} {e : Env} {s : State} {m : MethodId} {args : Array Value} {below : List Frame} {meth : Method} {c : Code} {Q : State → Prop} {A0 : Nat → Prop} {H0 : Heap} (C : CallFix p m c cX10_transpose 3 s args wsX10_transpose RX10) (G : GT) (hK : gK G s) (hA : ∀ q : Nat, H0.size ≤ q → A0 q) (q_t q_t_z q_t_old q_t_past q_t_kept q_t_text q_t_order q_t_told q_t_rowsTaken q_t_columnsTaken q_t_ways q_t_scaled q_t_rowFactors q_t_columnFactors q_t_rest q_t_diagonals q_t_weights : Nat) (t_states : Int32) (t_isKept : Int32) (t_length : Int32) (t_spot : Int32) (t_toldRows : Int32) (t_old : Nat → Int32) (t_past : Nat → Int32) (E_t_z : Nat → Int32) (K : ∀ (H : Heap) (locs : List Loc) (ls : Array Slot), va_P G.1 vwCl [(q_t, .inr (9, [.ref q_t_z, .ref q_t_old, .ref q_t_past, .int t_states, .ref q_t_kept, .int t_isKept, .ref q_t_text, .int t_length, .ref q_t_order, .ref q_t_told, .int t_spot, .int t_toldRows, .ref q_t_rowsTaken, .ref q_t_columnsTaken, .ref q_t_ways, .ref q_t_scaled, .ref q_t_rowFactors, .ref q_t_columnFactors, .ref q_t_rest, .ref q_t_diagonals, .ref q_t_weights])), (q_t_z, .inl (G.2 0, 50, .inl E_t_z)), (q_t_old, .inl (G.2 0, 50, .inl t_old)), (q_t_past, .inl (G.2 0, 200, .inl t_past))] H → va_D A0 [(q_t, .inr (9, [.ref q_t_z, .ref q_t_old, .ref q_t_past, .int t_states, .ref q_t_kept, .int t_isKept, .ref q_t_text, .int t_length, .ref q_t_order, .ref q_t_told, .int t_spot, .int t_toldRows, .ref q_t_rowsTaken, .ref q_t_columnsTaken, .ref q_t_ways, .ref q_t_scaled, .ref q_t_rowFactors, .ref q_t_columnFactors, .ref q_t_rest, .ref q_t_diagonals, .ref q_t_weights])), (q_t_z, .inl (G.2 0, 50, .inl E_t_z)), (q_t_old, .inl (G.2 0, 50, .inl t_old)), (q_t_past, .inl (G.2 0, 200, .inl t_past))] → va_S A0 H0 H locs → lv_has ls 3 [(0, .ref q_t)] → W p l e ({ frames := 3, cells := 0, slots := 0, locals := 68 } : Room) s m args below meth c H locs 0 0 Q (F0 m 54 ls [])) : ∀ (n : Nat) (x1 : Int32) (t_z : Nat → Int32), lpN (f_X10_transpose_L1 t_old) n (x1, t_z) = some E_t_z → ∀ (H : Heap) (locs : List Loc) (ls : Array Slot), va_P G.1 vwCl [(q_t, .inr (9, [.ref q_t_z, .ref q_t_old, .ref q_t_past, .int t_states, .ref q_t_kept, .int t_isKept, .ref q_t_text, .int t_length, .ref q_t_order, .ref q_t_told, .int t_spot, .int t_toldRows, .ref q_t_rowsTaken, .ref q_t_columnsTaken, .ref q_t_ways, .ref q_t_scaled, .ref q_t_rowFactors, .ref q_t_columnFactors, .ref q_t_rest, .ref q_t_diagonals, .ref q_t_weights])), (q_t_z, .inl (G.2 0, 50, .inl t_z)), (q_t_old, .inl (G.2 0, 50, .inl t_old)), (q_t_past, .inl (G.2 0, 200, .inl t_past))] H → va_D A0 [(q_t, .inr (9, [.ref q_t_z, .ref q_t_old, .ref q_t_past, .int t_states, .ref q_t_kept, .int t_isKept, .ref q_t_text, .int t_length, .ref q_t_order, .ref q_t_told, .int t_spot, .int t_toldRows, .ref q_t_rowsTaken, .ref q_t_columnsTaken, .ref q_t_ways, .ref q_t_scaled, .ref q_t_rowFactors, .ref q_t_columnFactors, .ref q_t_rest, .ref q_t_diagonals, .ref q_t_weights])), (q_t_z, .inl (G.2 0, 50, .inl t_z)), (q_t_old, .inl (G.2 0, 50, .inl t_old)), (q_t_past, .inl (G.2 0, 200, .inl t_past))] → va_S A0 H0 H locs → lv_has ls 3 [(0, .ref q_t), (1, .int x1)] → W p l e ({ frames := 3, cells := 0, slots := 0, locals := 68 } : Room) s m args below meth c H locs 0 0 Q (F0 m 6 ls []) := by
  obtain ⟨hx, hb, hml, hown, hts⟩ := C
  intro n
  induction n with
  | zero => intro x1 t_z h; exact absurd h (fun h => lp_0 h)
  | succ n ih =>
    intro x1 t_z h H locs ls hP hD hS hl
    obtain ⟨y, h, hk⟩ := lp_s h
    rw [f_X10_transpose_L1] at h
    refine lv_iload_n hx hb dX10_transpose_6 rfl (lv_at hl 1 rfl) ?_
    refine lv_bipush (v := 7) hx hb dX10_transpose_7 (by decide) ?_
    refine lv_icmp_ge (tgt := 54) hx hb dX10_transpose_9 (by decide) (fun c_3 => ?_) (fun c_3 => ?_)
    · replace h := it_t h c_3
      obtain rfl := sm1 h
      obtain rfl := sm1 hk
      exact K H locs ls hP hD hS (lv_sub hl [0] rfl)
    · replace h := it_f h c_3
      refine lv_iconst (v := 0) hx hb dX10_transpose_12 (by decide) ?_
      refine lv_istore_n (lv' := [(2, .int (0 : Int32)), (0, .ref q_t), (1, .int x1)]) hx hb dX10_transpose_13 rfl hl (by decide) rfl (fun ls hl => ?_)
      obtain ⟨t_z_9, hz_11, h⟩ := bd_ok h
      refine l_X10_transpose_2 ⟨hx, hb, hml, hown, hts⟩ G hK hA q_t q_t_z q_t_old q_t_past q_t_kept q_t_text q_t_order q_t_told q_t_rowsTaken q_t_columnsTaken q_t_ways q_t_scaled q_t_rowFactors q_t_columnFactors q_t_rest q_t_diagonals q_t_weights x1 t_states t_isKept t_length t_spot t_toldRows t_old t_past t_z_9 ?_ FU (0 : Int32) t_z hz_11 H locs ls hP hD hS (lv_sub hl [1, 2, 0] rfl)
      intro H locs ls hP hD hS hl
      obtain ⟨x1_12, ex1_12, h⟩ := pl_ok h
      refine lv_iinc (v := x1_12) (lv' := [(1, .int x1_12), (0, .ref q_t)]) hx hb dX10_transpose_48 hl (k := 1) rfl (by rw [ex1_12]; rfl) (by decide) rfl (fun ls hl => ?_)
      refine lv_goto (tgt := 6) hx hb dX10_transpose_51 (by decide) ?_
      obtain rfl := sm1 h
      exact ih x1_12 t_z_9 hk H locs ls hP hD hS (lv_sub hl [1, 0] rfl)
set_option maxHeartbeats 4000000 in
set_option maxRecDepth 100000 in
theorem k_X10_transpose {p : Program} {l : Launch} {e : Env} {s : State} {m : MethodId} {args : Array Value} {below : List Frame} {meth : Method} {c : Code} {Q : State → Prop} {A0 : Nat → Prop} {H0 : Heap} (C : CallFix p m c cX10_transpose 3 s args wsX10_transpose RX10) (G : GT) (hK : gK G s) (hA : ∀ q : Nat, H0.size ≤ q → A0 q) (q_t q_t_z q_t_old q_t_past q_t_kept q_t_text q_t_order q_t_told q_t_rowsTaken q_t_columnsTaken q_t_ways q_t_scaled q_t_rowFactors q_t_columnFactors q_t_rest q_t_diagonals q_t_weights : Nat) (t_states : Int32) (t_isKept : Int32) (t_length : Int32) (t_spot : Int32) (t_toldRows : Int32) (t_z : Nat → Int32) (t_old : Nat → Int32) (t_past : Nat → Int32) (r : Int32) (o_t_states : Int32) (o_t_z : Nat → Int32) (o_t_old : Nat → Int32) (o_t_past : Nat → Int32) (h : f_X10_transpose t_states t_z t_old t_past = some (r, o_t_states, o_t_z, o_t_old, o_t_past)) (KR : ∀ (H : Heap) (locs : List Loc) (ls : Array Slot) (pc : Nat), decode cX10_transpose pc = .ok (.ireturn, 1) → va_P G.1 vwCl [(q_t, .inr (9, [.ref q_t_z, .ref q_t_old, .ref q_t_past, .int o_t_states, .ref q_t_kept, .int t_isKept, .ref q_t_text, .int t_length, .ref q_t_order, .ref q_t_told, .int t_spot, .int t_toldRows, .ref q_t_rowsTaken, .ref q_t_columnsTaken, .ref q_t_ways, .ref q_t_scaled, .ref q_t_rowFactors, .ref q_t_columnFactors, .ref q_t_rest, .ref q_t_diagonals, .ref q_t_weights])), (q_t_z, .inl (G.2 0, 50, .inl o_t_z)), (q_t_old, .inl (G.2 0, 50, .inl o_t_old)), (q_t_past, .inl (G.2 0, 200, .inl o_t_past))] H → va_D A0 [(q_t, .inr (9, [.ref q_t_z, .ref q_t_old, .ref q_t_past, .int o_t_states, .ref q_t_kept, .int t_isKept, .ref q_t_text, .int t_length, .ref q_t_order, .ref q_t_told, .int t_spot, .int t_toldRows, .ref q_t_rowsTaken, .ref q_t_columnsTaken, .ref q_t_ways, .ref q_t_scaled, .ref q_t_rowFactors, .ref q_t_columnFactors, .ref q_t_rest, .ref q_t_diagonals, .ref q_t_weights])), (q_t_z, .inl (G.2 0, 50, .inl o_t_z)), (q_t_old, .inl (G.2 0, 50, .inl o_t_old)), (q_t_past, .inl (G.2 0, 200, .inl o_t_past))] → va_S A0 H0 H locs → W p l e ({ frames := 3, cells := 0, slots := 0, locals := 68 } : Room) s m args below meth c H locs 0 0 Q (F0 m pc ls [.int r])) : ∀ (H : Heap) (locs : List Loc) (ls : Array Slot), va_P G.1 vwCl [(q_t, .inr (9, [.ref q_t_z, .ref q_t_old, .ref q_t_past, .int t_states, .ref q_t_kept, .int t_isKept, .ref q_t_text, .int t_length, .ref q_t_order, .ref q_t_told, .int t_spot, .int t_toldRows, .ref q_t_rowsTaken, .ref q_t_columnsTaken, .ref q_t_ways, .ref q_t_scaled, .ref q_t_rowFactors, .ref q_t_columnFactors, .ref q_t_rest, .ref q_t_diagonals, .ref q_t_weights])), (q_t_z, .inl (G.2 0, 50, .inl t_z)), (q_t_old, .inl (G.2 0, 50, .inl t_old)), (q_t_past, .inl (G.2 0, 200, .inl t_past))] H → va_D A0 [(q_t, .inr (9, [.ref q_t_z, .ref q_t_old, .ref q_t_past, .int t_states, .ref q_t_kept, .int t_isKept, .ref q_t_text, .int t_length, .ref q_t_order, .ref q_t_told, .int t_spot, .int t_toldRows, .ref q_t_rowsTaken, .ref q_t_columnsTaken, .ref q_t_ways, .ref q_t_scaled, .ref q_t_rowFactors, .ref q_t_columnFactors, .ref q_t_rest, .ref q_t_diagonals, .ref q_t_weights])), (q_t_z, .inl (G.2 0, 50, .inl t_z)), (q_t_old, .inl (G.2 0, 50, .inl t_old)), (q_t_past, .inl (G.2 0, 200, .inl t_past))] → va_S A0 H0 H locs → lv_has ls 3 [(0, .ref q_t)] → W p l e ({ frames := 3, cells := 0, slots := 0, locals := 68 } : Room) s m args below meth c H locs 0 0 Q (F0 m 0 ls []) := by
  obtain ⟨hx, hb, hml, hown, hts⟩ := C
  intro H locs ls hP hD hS hl
  rw [f_X10_transpose] at h
  refine lv_aload_n hx hb dX10_transpose_0 rfl (lv_at hl 0 rfl) ?_
  obtain ⟨t_old_1, hf_2, h⟩ := bd_ok h
  refine ck_Vv (rest := []) (wn := [(q_t, .inr (9, [.ref q_t_z, .ref q_t_old, .ref q_t_past, .int t_states, .ref q_t_kept, .int t_isKept, .ref q_t_text, .int t_length, .ref q_t_order, .ref q_t_told, .int t_spot, .int t_toldRows, .ref q_t_rowsTaken, .ref q_t_columnsTaken, .ref q_t_ways, .ref q_t_scaled, .ref q_t_rowFactors, .ref q_t_columnFactors, .ref q_t_rest, .ref q_t_diagonals, .ref q_t_weights])), (q_t_z, .inl (G.2 0, 50, .inl t_z)), (q_t_old, .inl (G.2 0, 50, .inl t_old_1)), (q_t_past, .inl (G.2 0, 200, .inl t_past))]) ⟨hx, hb, hml, hown, hts⟩ hK hP hD hS hA [0, 1, 2] [3] [1, 2, 3, 0] (c_X10_takeOld l G q_t q_t_z q_t_old q_t_past q_t_kept q_t_text q_t_order q_t_told q_t_rowsTaken q_t_columnsTaken q_t_ways q_t_scaled q_t_rowFactors q_t_columnFactors q_t_rest q_t_diagonals q_t_weights _ t_states t_isKept t_length t_spot t_toldRows t_z t_old _ hf_2) (cwV 0 hts gX10_transpose_X10_takeOld rfl rfl rfl (by decide +kernel) ⟨Nat.le_of_ble_eq_true rfl, Nat.le_of_ble_eq_true rfl⟩) rfl rfl rfl rfl rfl rfl (by decide) rfl rfl rfl hl.1 rfl (Nat.le_of_ble_eq_true rfl) dX10_transpose_1 ⟨Nat.zero_le _, Nat.zero_le _⟩ (fun H locs hP hD hS => ?_)
  refine lv_iconst (v := 0) hx hb dX10_transpose_4 (by decide) ?_
  refine lv_istore_n (lv' := [(1, .int (0 : Int32)), (0, .ref q_t)]) hx hb dX10_transpose_5 rfl hl (by decide) rfl (fun ls hl => ?_)
  obtain ⟨t_z_13, hz_15, h⟩ := bd_ok h
  refine l_X10_transpose_1 ⟨hx, hb, hml, hown, hts⟩ G hK hA q_t q_t_z q_t_old q_t_past q_t_kept q_t_text q_t_order q_t_told q_t_rowsTaken q_t_columnsTaken q_t_ways q_t_scaled q_t_rowFactors q_t_columnFactors q_t_rest q_t_diagonals q_t_weights t_states t_isKept t_length t_spot t_toldRows t_old_1 t_past t_z_13 ?_ FU (0 : Int32) t_z hz_15 H locs ls hP hD hS (lv_sub hl [1, 0] rfl)
  intro H locs ls hP hD hS hl
  refine lv_aload_n hx hb dX10_transpose_54 rfl (lv_at hl 0 rfl) ?_
  obtain ⟨⟨r_18, t_states_16, t_past_17⟩, hf_19, h⟩ := bd_ok h
  refine ck_Vi (rest := []) (wn := [(q_t, .inr (9, [.ref q_t_z, .ref q_t_old, .ref q_t_past, .int t_states_16, .ref q_t_kept, .int t_isKept, .ref q_t_text, .int t_length, .ref q_t_order, .ref q_t_told, .int t_spot, .int t_toldRows, .ref q_t_rowsTaken, .ref q_t_columnsTaken, .ref q_t_ways, .ref q_t_scaled, .ref q_t_rowFactors, .ref q_t_columnFactors, .ref q_t_rest, .ref q_t_diagonals, .ref q_t_weights])), (q_t_z, .inl (G.2 0, 50, .inl t_z_13)), (q_t_old, .inl (G.2 0, 50, .inl t_old_1)), (q_t_past, .inl (G.2 0, 200, .inl t_past_17))]) ⟨hx, hb, hml, hown, hts⟩ hK hP hD hS hA [0, 1, 2, 3] [] [0, 1, 2, 3] (c_X10_unlike l G q_t q_t_z q_t_old q_t_past q_t_kept q_t_text q_t_order q_t_told q_t_rowsTaken q_t_columnsTaken q_t_ways q_t_scaled q_t_rowFactors q_t_columnFactors q_t_rest q_t_diagonals q_t_weights _ t_states t_isKept t_length t_spot t_toldRows t_z_13 t_old_1 t_past _ _ _ hf_19) (cwV 0 hts gX10_transpose_X10_unlike rfl rfl rfl (by decide +kernel) ⟨Nat.le_of_ble_eq_true rfl, Nat.le_of_ble_eq_true rfl⟩) rfl rfl rfl rfl rfl rfl (by decide) rfl rfl rfl hl.1 rfl (Nat.le_of_ble_eq_true rfl) dX10_transpose_55 ⟨Nat.zero_le _, Nat.zero_le _⟩ (fun H locs hP hD hS => ?_)
  obtain ⟨rfl, rfl, rfl, rfl, rfl⟩ := sm5 h
  exact KR H locs ls 58 dX10_transpose_58 hP hD hS
set_option maxHeartbeats 4000000 in
set_option maxRecDepth 100000 in
theorem c_X10_transpose (l : Launch) (G : GT) (q_t q_t_z q_t_old q_t_past q_t_kept q_t_text q_t_order q_t_told q_t_rowsTaken q_t_columnsTaken q_t_ways q_t_scaled q_t_rowFactors q_t_columnFactors q_t_rest q_t_diagonals q_t_weights : Nat) (sz : Nat) (t_states : Int32) (t_isKept : Int32) (t_length : Int32) (t_spot : Int32) (t_toldRows : Int32) (t_z : Nat → Int32) (t_old : Nat → Int32) (t_past : Nat → Int32) (r : Int32) (o_t_states : Int32) (o_t_z : Nat → Int32) (o_t_old : Nat → Int32) (o_t_past : Nat → Int32) (h : f_X10_transpose t_states t_z t_old t_past = some (r, o_t_states, o_t_z, o_t_old, o_t_past)) : Met l yX10_transpose wsX10_transpose ({ frames := 3, cells := 0, slots := 0, locals := 68 } : Room) (va_Pc [.ref q_t] (pcW G [(q_t, .inr (9, [.ref q_t_z, .ref q_t_old, .ref q_t_past, .int t_states, .ref q_t_kept, .int t_isKept, .ref q_t_text, .int t_length, .ref q_t_order, .ref q_t_told, .int t_spot, .int t_toldRows, .ref q_t_rowsTaken, .ref q_t_columnsTaken, .ref q_t_ways, .ref q_t_scaled, .ref q_t_rowFactors, .ref q_t_columnFactors, .ref q_t_rest, .ref q_t_diagonals, .ref q_t_weights])), (q_t_z, .inl (G.2 0, 50, .inl t_z)), (q_t_old, .inl (G.2 0, 50, .inl t_old)), (q_t_past, .inl (G.2 0, 200, .inl t_past))] sz)) (va_Qi (fun r9 (_ : Unit) => r9 = r) (fun _ t => atW G (va_A [(q_t, .inr (9, [.ref q_t_z, .ref q_t_old, .ref q_t_past, .int t_states, .ref q_t_kept, .int t_isKept, .ref q_t_text, .int t_length, .ref q_t_order, .ref q_t_told, .int t_spot, .int t_toldRows, .ref q_t_rowsTaken, .ref q_t_columnsTaken, .ref q_t_ways, .ref q_t_scaled, .ref q_t_rowFactors, .ref q_t_columnFactors, .ref q_t_rest, .ref q_t_diagonals, .ref q_t_weights])), (q_t_z, .inl (G.2 0, 50, .inl t_z)), (q_t_old, .inl (G.2 0, 50, .inl t_old)), (q_t_past, .inl (G.2 0, 200, .inl t_past))] sz) [(q_t, .inr (9, [.ref q_t_z, .ref q_t_old, .ref q_t_past, .int o_t_states, .ref q_t_kept, .int t_isKept, .ref q_t_text, .int t_length, .ref q_t_order, .ref q_t_told, .int t_spot, .int t_toldRows, .ref q_t_rowsTaken, .ref q_t_columnsTaken, .ref q_t_ways, .ref q_t_scaled, .ref q_t_rowFactors, .ref q_t_columnFactors, .ref q_t_rest, .ref q_t_diagonals, .ref q_t_weights])), (q_t_z, .inl (G.2 0, 50, .inl o_t_z)), (q_t_old, .inl (G.2 0, 50, .inl o_t_old)), (q_t_past, .inl (G.2 0, 200, .inl o_t_past))] t) (va_A [(q_t, .inr (9, [.ref q_t_z, .ref q_t_old, .ref q_t_past, .int t_states, .ref q_t_kept, .int t_isKept, .ref q_t_text, .int t_length, .ref q_t_order, .ref q_t_told, .int t_spot, .int t_toldRows, .ref q_t_rowsTaken, .ref q_t_columnsTaken, .ref q_t_ways, .ref q_t_scaled, .ref q_t_rowFactors, .ref q_t_columnFactors, .ref q_t_rest, .ref q_t_diagonals, .ref q_t_weights])), (q_t_z, .inl (G.2 0, 50, .inl t_z)), (q_t_old, .inl (G.2 0, 50, .inl t_old)), (q_t_past, .inl (G.2 0, 200, .inl t_past))] sz)) 0 0 (va_A [(q_t, .inr (9, [.ref q_t_z, .ref q_t_old, .ref q_t_past, .int t_states, .ref q_t_kept, .int t_isKept, .ref q_t_text, .int t_length, .ref q_t_order, .ref q_t_told, .int t_spot, .int t_toldRows, .ref q_t_rowsTaken, .ref q_t_columnsTaken, .ref q_t_ways, .ref q_t_scaled, .ref q_t_rowFactors, .ref q_t_columnFactors, .ref q_t_rest, .ref q_t_diagonals, .ref q_t_weights])), (q_t_z, .inl (G.2 0, 50, .inl t_z)), (q_t_old, .inl (G.2 0, 50, .inl t_old)), (q_t_past, .inl (G.2 0, 200, .inl t_past))] sz) := by
  refine Met.ofW (cc := cX10_transpose) (maxL := 3) (ret := (some .int)) (by decide) rfl ?_
  intro p e s m args below meth c s₁ B hml hv
  obtain ⟨rfl, hsz, hP, hK, hD0⟩ := hv
  subst hsz
  have hD := hD0.self (sz := s.heap.size)
  generalize hAe : va_A [(q_t, .inr (9, [.ref q_t_z, .ref q_t_old, .ref q_t_past, .int t_states, .ref q_t_kept, .int t_isKept, .ref q_t_text, .int t_length, .ref q_t_order, .ref q_t_told, .int t_spot, .int t_toldRows, .ref q_t_rowsTaken, .ref q_t_columnsTaken, .ref q_t_ways, .ref q_t_scaled, .ref q_t_rowFactors, .ref q_t_columnFactors, .ref q_t_rest, .ref q_t_diagonals, .ref q_t_weights])), (q_t_z, .inl (G.2 0, 50, .inl t_z)), (q_t_old, .inl (G.2 0, 50, .inl t_old)), (q_t_past, .inl (G.2 0, 200, .inl t_past))] s.heap.size = A at hD ⊢
  have hA : ∀ q : Nat, s.heap.size ≤ q → A q := fun q h => by rw [← hAe]; exact Or.inr h
  have hl := lv_entry ([.ref q_t]) (n := 3) (Nat.le_of_ble_eq_true rfl)
  rw [lg_entry_eq]
  refine k_X10_transpose ⟨B.exec, B.bytes, hml, findClass_of_methodNamed B.named, atoms_spec (ws := wsX10_transpose) B.pre⟩ G hK hA q_t q_t_z q_t_old q_t_past q_t_kept q_t_text q_t_order q_t_told q_t_rowsTaken q_t_columnsTaken q_t_ways q_t_scaled q_t_rowFactors q_t_columnFactors q_t_rest q_t_diagonals q_t_weights _ _ _ _ _ _ _ _ _ _ _ _ _ h ?_ _ _ _ hP hD va_S.rf hl
  intro H locs ls pc hd hP hD hS
  exact W.iret B.exec B.bytes B.returns (fun t ht hW => ⟨⟨r, (), rfl, rfl, by rw [ht]; exact hP, hD⟩, hS.F ht⟩) hS.2.2 hd B.notSynchronized
set_option maxRecDepth 20000 in
theorem wd_X10_multiply_3 : Cond.constant RX10 104 (-2000000004) ∈ wsX10_multiply := List.mem_of_getElem? (i := 3) (by decide +kernel)
set_option maxRecDepth 20000 in
theorem wd_X10_multiply_4 : Cond.fieldLink RX10 7 "PermanentDeskModel" "z" "[I" ∈ wsX10_multiply := List.mem_of_getElem? (i := 4) (by decide +kernel)
set_option maxRecDepth 20000 in
theorem wi_X10_multiply_X10 : ∀ w ∈ u_ws RX10 TX10 21, w ∈ wsX10_multiply := by decide +kernel
set_option maxRecDepth 20000 in
theorem wd_X10_multiply_2 : Cond.constant RX10 83 (-2000000002) ∈ wsX10_multiply := List.mem_of_getElem? (i := 2) (by decide +kernel)
set_option maxRecDepth 20000 in
theorem wd_X10_multiply_1 : Cond.constant RX10 92 (-2000000001) ∈ wsX10_multiply := List.mem_of_getElem? (i := 1) (by decide +kernel)
def f_X10_multiply_L1 (x1 : Int32) (x2 : Int32) (t_states : Int32) (t_z : Nat → Int32) (t_old : Nat → Int32) (t_past : Nat → Int32) : Int32 → Option (Int32 ⊕ (Unit ⊕ (Int32 × Int32 × (Nat → Int32) × (Nat → Int32) × (Nat → Int32))))
  | x3 =>
    if (7 : Int32) ≤ x3 then
      some (.inr (.inl ()))
    else
      (f_X10_at t_z x1 x3).bind (fun r_8 =>
      (f_X10_in (x2 * r_8) (-20 : Int32) (20 : Int32)).bind (fun r_10 =>
      if r_10 = 0 then
        some (.inr (.inr ((-2000000004 : Int32), t_states, t_z, t_old, t_past)))
      else
        pl ((x3 + (1 : Int32)) : Int32) (fun x3_13 =>
        some (.inl x3_13))))
def f_X10_multiply_L2 (x1 : Int32) (x2 : Int32) : (Int32 × (Nat → Int32)) → Option ((Int32 × (Nat → Int32)) ⊕ (Nat → Int32))
  | (x3, t_z) =>
    if (7 : Int32) ≤ x3 then
      some (.inr t_z)
    else
      pl ((((7 : Int32) * x1) + x3) : Int32) (fun v_19 =>
      gd (okI v_19 50) (
      gd (okI v_19 50) (
      pl ((upd t_z v_19.toNatClampNeg ((t_z v_19.toNatClampNeg) * x2)) : Nat → Int32) (fun t_z_22 =>
      pl ((x3 + (1 : Int32)) : Int32) (fun x3_23 =>
      some (.inl (x3_23, t_z_22)))))))
def f_X10_multiply (t_states : Int32) (t_z : Nat → Int32) (t_old : Nat → Int32) (t_past : Nat → Int32) (a1 : Int32) (a2 : Int32) : Option (Int32 × Int32 × (Nat → Int32) × (Nat → Int32) × (Nat → Int32)) :=
  (f_X10_isLine t_z a1).bind (fun r_1 =>
  if r_1 = 0 then
    some ((-2000000001 : Int32), t_states, t_z, t_old, t_past)
  else
    (f_X10_in a2 (-9 : Int32) (9 : Int32)).bind (fun r_4 =>
    if r_4 = 0 then
      some ((-2000000002 : Int32), t_states, t_z, t_old, t_past)
    else
      (lpN (f_X10_multiply_L1 a1 a2 t_states t_z t_old t_past) FU (0 : Int32)).bind (fun z_14 => match z_14 with
      | .inl () =>
        (f_X10_takeOld t_z t_old).bind (fun t_old_16 =>
        (lpN (f_X10_multiply_L2 a1 a2) FU ((0 : Int32), t_z)).bind (fun t_z_24 =>
        (f_X10_unlike t_states t_z_24 t_old_16 t_past).bind (fun (r_29, t_states_27, t_past_28) =>
        some (r_29, t_states_27, t_z_24, t_old_16, t_past_28))))
      | .inr (r_31, t_states_32, t_z_33, t_old_34, t_past_35) => some (r_31, t_states_32, t_z_33, t_old_34, t_past_35))))
set_option maxHeartbeats 4000000 in
set_option maxRecDepth 100000 in
theorem l_X10_multiply_1 {p : Program} {l : Launch} {e : Env} {s : State} {m : MethodId} {args : Array Value} {below : List Frame} {meth : Method} {c : Code} {Q : State → Prop} {A0 : Nat → Prop} {H0 : Heap} (C : CallFix p m c cX10_multiply 4 s args wsX10_multiply RX10) (G : GT) (hK : gK G s) (hA : ∀ q : Nat, H0.size ≤ q → A0 q) (q_t q_t_z q_t_old q_t_past q_t_kept q_t_text q_t_order q_t_told q_t_rowsTaken q_t_columnsTaken q_t_ways q_t_scaled q_t_rowFactors q_t_columnFactors q_t_rest q_t_diagonals q_t_weights : Nat) (x1 : Int32) (x2 : Int32) (t_states : Int32) (t_isKept : Int32) (t_length : Int32) (t_spot : Int32) (t_toldRows : Int32) (t_z : Nat → Int32) (t_old : Nat → Int32) (t_past : Nat → Int32) (z : (Unit ⊕ (Int32 × Int32 × (Nat → Int32) × (Nat → Int32) × (Nat → Int32)))) (K : z = .inl () → ∀ (H : Heap) (locs : List Loc) (ls : Array Slot), va_P G.1 vwCl [(q_t, .inr (9, [.ref q_t_z, .ref q_t_old, .ref q_t_past, .int t_states, .ref q_t_kept, .int t_isKept, .ref q_t_text, .int t_length, .ref q_t_order, .ref q_t_told, .int t_spot, .int t_toldRows, .ref q_t_rowsTaken, .ref q_t_columnsTaken, .ref q_t_ways, .ref q_t_scaled, .ref q_t_rowFactors, .ref q_t_columnFactors, .ref q_t_rest, .ref q_t_diagonals, .ref q_t_weights])), (q_t_z, .inl (G.2 0, 50, .inl t_z)), (q_t_old, .inl (G.2 0, 50, .inl t_old)), (q_t_past, .inl (G.2 0, 200, .inl t_past))] H → va_D A0 [(q_t, .inr (9, [.ref q_t_z, .ref q_t_old, .ref q_t_past, .int t_states, .ref q_t_kept, .int t_isKept, .ref q_t_text, .int t_length, .ref q_t_order, .ref q_t_told, .int t_spot, .int t_toldRows, .ref q_t_rowsTaken, .ref q_t_columnsTaken, .ref q_t_ways, .ref q_t_scaled, .ref q_t_rowFactors, .ref q_t_columnFactors, .ref q_t_rest, .ref q_t_diagonals, .ref q_t_weights])), (q_t_z, .inl (G.2 0, 50, .inl t_z)), (q_t_old, .inl (G.2 0, 50, .inl t_old)), (q_t_past, .inl (G.2 0, 200, .inl t_past))] → va_S A0 H0 H locs → lv_has ls 4 [(0, .ref q_t), (1, .int x1), (2, .int x2)] → W p l e ({ frames := 3, cells := 0, slots := 0, locals := 68 } : Room) s m args below meth c H locs 0 0 Q (F0 m 60 ls [])) (KR : ∀ (r : Int32) (o_t_states : Int32) (o_t_z : Nat → Int32) (o_t_old : Nat → Int32) (o_t_past : Nat → Int32), z = .inr (r, o_t_states, o_t_z, o_t_old, o_t_past) → ∀ (H : Heap) (locs : List Loc) (ls : Array Slot) (pc : Nat), decode cX10_multiply pc = .ok (.ireturn, 1) → va_P G.1 vwCl [(q_t, .inr (9, [.ref q_t_z, .ref q_t_old, .ref q_t_past, .int o_t_states, .ref q_t_kept, .int t_isKept, .ref q_t_text, .int t_length, .ref q_t_order, .ref q_t_told, .int t_spot, .int t_toldRows, .ref q_t_rowsTaken, .ref q_t_columnsTaken, .ref q_t_ways, .ref q_t_scaled, .ref q_t_rowFactors, .ref q_t_columnFactors, .ref q_t_rest, .ref q_t_diagonals, .ref q_t_weights])), (q_t_z, .inl (G.2 0, 50, .inl o_t_z)), (q_t_old, .inl (G.2 0, 50, .inl o_t_old)), (q_t_past, .inl (G.2 0, 200, .inl o_t_past))] H → va_D A0 [(q_t, .inr (9, [.ref q_t_z, .ref q_t_old, .ref q_t_past, .int o_t_states, .ref q_t_kept, .int t_isKept, .ref q_t_text, .int t_length, .ref q_t_order, .ref q_t_told, .int t_spot, .int t_toldRows, .ref q_t_rowsTaken, .ref q_t_columnsTaken, .ref q_t_ways, .ref q_t_scaled, .ref q_t_rowFactors, .ref q_t_columnFactors, .ref q_t_rest, .ref q_t_diagonals, .ref q_t_weights])), (q_t_z, .inl (G.2 0, 50, .inl o_t_z)), (q_t_old, .inl (G.2 0, 50, .inl o_t_old)), (q_t_past, .inl (G.2 0, 200, .inl o_t_past))] → va_S A0 H0 H locs → W p l e ({ frames := 3, cells := 0, slots := 0, locals := 68 } : Room) s m args below meth c H locs 0 0 Q (F0 m pc ls [.int r])) : ∀ (n : Nat) (x3 : Int32), lpN (f_X10_multiply_L1 x1 x2 t_states t_z t_old t_past) n x3 = some z → ∀ (H : Heap) (locs : List Loc) (ls : Array Slot), va_P G.1 vwCl [(q_t, .inr (9, [.ref q_t_z, .ref q_t_old, .ref q_t_past, .int t_states, .ref q_t_kept, .int t_isKept, .ref q_t_text, .int t_length, .ref q_t_order, .ref q_t_told, .int t_spot, .int t_toldRows, .ref q_t_rowsTaken, .ref q_t_columnsTaken, .ref q_t_ways, .ref q_t_scaled, .ref q_t_rowFactors, .ref q_t_columnFactors, .ref q_t_rest, .ref q_t_diagonals, .ref q_t_weights])), (q_t_z, .inl (G.2 0, 50, .inl t_z)), (q_t_old, .inl (G.2 0, 50, .inl t_old)), (q_t_past, .inl (G.2 0, 200, .inl t_past))] H → va_D A0 [(q_t, .inr (9, [.ref q_t_z, .ref q_t_old, .ref q_t_past, .int t_states, .ref q_t_kept, .int t_isKept, .ref q_t_text, .int t_length, .ref q_t_order, .ref q_t_told, .int t_spot, .int t_toldRows, .ref q_t_rowsTaken, .ref q_t_columnsTaken, .ref q_t_ways, .ref q_t_scaled, .ref q_t_rowFactors, .ref q_t_columnFactors, .ref q_t_rest, .ref q_t_diagonals, .ref q_t_weights])), (q_t_z, .inl (G.2 0, 50, .inl t_z)), (q_t_old, .inl (G.2 0, 50, .inl t_old)), (q_t_past, .inl (G.2 0, 200, .inl t_past))] → va_S A0 H0 H locs → lv_has ls 4 [(0, .ref q_t), (1, .int x1), (2, .int x2), (3, .int x3)] → W p l e ({ frames := 3, cells := 0, slots := 0, locals := 68 } : Room) s m args below meth c H locs 0 0 Q (F0 m 27 ls []) := by
  obtain ⟨hx, hb, hml, hown, hts⟩ := C
  intro n
  induction n with
  | zero => intro x3 h; exact absurd h (fun h => lp_0 h)
  | succ n ih =>
    intro x3 h H locs ls hP hD hS hl
    obtain ⟨y, h, hk⟩ := lp_s h
    rw [f_X10_multiply_L1] at h
    refine lv_iload_n hx hb dX10_multiply_27 rfl (lv_at hl 3 rfl) ?_
    refine lv_bipush (v := 7) hx hb dX10_multiply_28 (by decide) ?_
    refine lv_icmp_ge (tgt := 60) hx hb dX10_multiply_30 (by decide) (fun c_7 => ?_) (fun c_7 => ?_)
    · replace h := it_t h c_7
      obtain rfl := sm1 h
      obtain rfl := sm1 hk
      exact K  rfl H locs ls hP hD hS (lv_sub hl [0, 1, 2] rfl)
    · replace h := it_f h c_7
      refine lv_iload_n hx hb dX10_multiply_33 rfl (lv_at hl 2 rfl) ?_
      refine lv_aload_n hx hb dX10_multiply_34 rfl (lv_at hl 0 rfl) ?_
      refine lv_iload_n hx hb dX10_multiply_35 rfl (lv_at hl 1 rfl) ?_
      refine lv_iload_n hx hb dX10_multiply_36 rfl (lv_at hl 3 rfl) ?_
      obtain ⟨r_8, hf_9, h⟩ := bd_ok h
      refine ck_Vi (rest := [.int x2]) (wn := [(q_t, .inr (9, [.ref q_t_z, .ref q_t_old, .ref q_t_past, .int t_states, .ref q_t_kept, .int t_isKept, .ref q_t_text, .int t_length, .ref q_t_order, .ref q_t_told, .int t_spot, .int t_toldRows, .ref q_t_rowsTaken, .ref q_t_columnsTaken, .ref q_t_ways, .ref q_t_scaled, .ref q_t_rowFactors, .ref q_t_columnFactors, .ref q_t_rest, .ref q_t_diagonals, .ref q_t_weights])), (q_t_z, .inl (G.2 0, 50, .inl t_z)), (q_t_old, .inl (G.2 0, 50, .inl t_old)), (q_t_past, .inl (G.2 0, 200, .inl t_past))]) ⟨hx, hb, hml, hown, hts⟩ hK hP hD hS hA [0, 1] [2, 3] [2, 3, 0, 1] (c_X10_at l G q_t q_t_z q_t_old q_t_past q_t_kept q_t_text q_t_order q_t_told q_t_rowsTaken q_t_columnsTaken q_t_ways q_t_scaled q_t_rowFactors q_t_columnFactors q_t_rest q_t_diagonals q_t_weights _ t_states t_isKept t_length t_spot t_toldRows t_z x1 x3 _ hf_9) (cwV 2 hts gX10_multiply_X10_at rfl rfl rfl (by decide +kernel) ⟨Nat.le_of_ble_eq_true rfl, Nat.le_of_ble_eq_true rfl⟩) rfl rfl rfl rfl rfl rfl (by decide) rfl rfl rfl hl.1 rfl (Nat.le_of_ble_eq_true rfl) dX10_multiply_37 ⟨Nat.zero_le _, Nat.zero_le _⟩ (fun H locs hP hD hS => ?_)
      refine lv_imul hx hb dX10_multiply_40 ?_
      refine lv_bipush (v := -20) hx hb dX10_multiply_41 (by decide) ?_
      refine lv_bipush (v := 20) hx hb dX10_multiply_43 (by decide) ?_
      obtain ⟨r_10, hf_11, h⟩ := bd_ok h
      refine ck_Si (rest := []) (wn := [(q_t, .inr (9, [.ref q_t_z, .ref q_t_old, .ref q_t_past, .int t_states, .ref q_t_kept, .int t_isKept, .ref q_t_text, .int t_length, .ref q_t_order, .ref q_t_told, .int t_spot, .int t_toldRows, .ref q_t_rowsTaken, .ref q_t_columnsTaken, .ref q_t_ways, .ref q_t_scaled, .ref q_t_rowFactors, .ref q_t_columnFactors, .ref q_t_rest, .ref q_t_diagonals, .ref q_t_weights])), (q_t_z, .inl (G.2 0, 50, .inl t_z)), (q_t_old, .inl (G.2 0, 50, .inl t_old)), (q_t_past, .inl (G.2 0, 200, .inl t_past))]) ⟨hx, hb, hml, hown, hts⟩ hK hP hD hS hA [] [0, 1, 2, 3] [0, 1, 2, 3] (c_X10_in l G _ (x2 * r_8) (-20 : Int32) (20 : Int32) _ hf_11) (cwS 3 hts gX10_multiply_X10_in rfl rfl rfl (by decide +kernel) ⟨Nat.le_of_ble_eq_true rfl, Nat.le_of_ble_eq_true rfl⟩) rfl rfl rfl rfl (by decide) rfl rfl rfl hl.1 rfl (Nat.le_of_ble_eq_true rfl) dX10_multiply_45 ⟨Nat.zero_le _, Nat.zero_le _⟩ (fun H locs hP hD hS => ?_)
      refine lv_if_ne (tgt := 54) hx hb dX10_multiply_48 (by decide) (fun c_12 => ?_) (fun c_12 => ?_)
      · replace h := it_f h c_12
        obtain ⟨x3_13, ex3_13, h⟩ := pl_ok h
        refine lv_iinc (v := x3_13) (lv' := [(3, .int x3_13), (0, .ref q_t), (1, .int x1), (2, .int x2)]) hx hb dX10_multiply_54 hl (k := 3) rfl (by rw [ex3_13]; rfl) (by decide) rfl (fun ls hl => ?_)
        refine lv_goto (tgt := 27) hx hb dX10_multiply_57 (by decide) ?_
        obtain rfl := sm1 h
        exact ih x3_13 hk H locs ls hP hD hS (lv_sub hl [1, 2, 3, 0] rfl)
      · replace h := it_t h c_12
        refine lv_ldc (v := -2000000004) hx hb hown (hts _ wd_X10_multiply_3) dX10_multiply_51 ?_
        obtain rfl := sm1 h
        obtain rfl := sm1 hk
        exact KR (-2000000004 : Int32) t_states t_z t_old t_past rfl H locs ls 53 dX10_multiply_53 hP hD hS
set_option maxHeartbeats 4000000 in
set_option maxRecDepth 100000 in
theorem l_X10_multiply_2 {p : Program} {l : Launch} {e : Env} {s : State} {m : MethodId} {args : Array Value} {below : List Frame} {meth : Method} {c : Code} {Q : State → Prop} {A0 : Nat → Prop} {H0 : Heap} (C : CallFix p m c cX10_multiply 4 s args wsX10_multiply RX10) (G : GT) (hK : gK G s) (hA : ∀ q : Nat, H0.size ≤ q → A0 q) (q_t q_t_z q_t_old q_t_past q_t_kept q_t_text q_t_order q_t_told q_t_rowsTaken q_t_columnsTaken q_t_ways q_t_scaled q_t_rowFactors q_t_columnFactors q_t_rest q_t_diagonals q_t_weights : Nat) (x1 : Int32) (x2 : Int32) (t_states : Int32) (t_isKept : Int32) (t_length : Int32) (t_spot : Int32) (t_toldRows : Int32) (t_old : Nat → Int32) (t_past : Nat → Int32) (E_t_z : Nat → Int32) (K : ∀ (H : Heap) (locs : List Loc) (ls : Array Slot), va_P G.1 vwCl [(q_t, .inr (9, [.ref q_t_z, .ref q_t_old, .ref q_t_past, .int t_states, .ref q_t_kept, .int t_isKept, .ref q_t_text, .int t_length, .ref q_t_order, .ref q_t_told, .int t_spot, .int t_toldRows, .ref q_t_rowsTaken, .ref q_t_columnsTaken, .ref q_t_ways, .ref q_t_scaled, .ref q_t_rowFactors, .ref q_t_columnFactors, .ref q_t_rest, .ref q_t_diagonals, .ref q_t_weights])), (q_t_z, .inl (G.2 0, 50, .inl E_t_z)), (q_t_old, .inl (G.2 0, 50, .inl t_old)), (q_t_past, .inl (G.2 0, 200, .inl t_past))] H → va_D A0 [(q_t, .inr (9, [.ref q_t_z, .ref q_t_old, .ref q_t_past, .int t_states, .ref q_t_kept, .int t_isKept, .ref q_t_text, .int t_length, .ref q_t_order, .ref q_t_told, .int t_spot, .int t_toldRows, .ref q_t_rowsTaken, .ref q_t_columnsTaken, .ref q_t_ways, .ref q_t_scaled, .ref q_t_rowFactors, .ref q_t_columnFactors, .ref q_t_rest, .ref q_t_diagonals, .ref q_t_weights])), (q_t_z, .inl (G.2 0, 50, .inl E_t_z)), (q_t_old, .inl (G.2 0, 50, .inl t_old)), (q_t_past, .inl (G.2 0, 200, .inl t_past))] → va_S A0 H0 H locs → lv_has ls 4 [(0, .ref q_t)] → W p l e ({ frames := 3, cells := 0, slots := 0, locals := 68 } : Room) s m args below meth c H locs 0 0 Q (F0 m 93 ls [])) : ∀ (n : Nat) (x3 : Int32) (t_z : Nat → Int32), lpN (f_X10_multiply_L2 x1 x2) n (x3, t_z) = some E_t_z → ∀ (H : Heap) (locs : List Loc) (ls : Array Slot), va_P G.1 vwCl [(q_t, .inr (9, [.ref q_t_z, .ref q_t_old, .ref q_t_past, .int t_states, .ref q_t_kept, .int t_isKept, .ref q_t_text, .int t_length, .ref q_t_order, .ref q_t_told, .int t_spot, .int t_toldRows, .ref q_t_rowsTaken, .ref q_t_columnsTaken, .ref q_t_ways, .ref q_t_scaled, .ref q_t_rowFactors, .ref q_t_columnFactors, .ref q_t_rest, .ref q_t_diagonals, .ref q_t_weights])), (q_t_z, .inl (G.2 0, 50, .inl t_z)), (q_t_old, .inl (G.2 0, 50, .inl t_old)), (q_t_past, .inl (G.2 0, 200, .inl t_past))] H → va_D A0 [(q_t, .inr (9, [.ref q_t_z, .ref q_t_old, .ref q_t_past, .int t_states, .ref q_t_kept, .int t_isKept, .ref q_t_text, .int t_length, .ref q_t_order, .ref q_t_told, .int t_spot, .int t_toldRows, .ref q_t_rowsTaken, .ref q_t_columnsTaken, .ref q_t_ways, .ref q_t_scaled, .ref q_t_rowFactors, .ref q_t_columnFactors, .ref q_t_rest, .ref q_t_diagonals, .ref q_t_weights])), (q_t_z, .inl (G.2 0, 50, .inl t_z)), (q_t_old, .inl (G.2 0, 50, .inl t_old)), (q_t_past, .inl (G.2 0, 200, .inl t_past))] → va_S A0 H0 H locs → lv_has ls 4 [(0, .ref q_t), (1, .int x1), (2, .int x2), (3, .int x3)] → W p l e ({ frames := 3, cells := 0, slots := 0, locals := 68 } : Room) s m args below meth c H locs 0 0 Q (F0 m 66 ls []) := by
  obtain ⟨hx, hb, hml, hown, hts⟩ := C
  intro n
  induction n with
  | zero => intro x3 t_z h; exact absurd h (fun h => lp_0 h)
  | succ n ih =>
    intro x3 t_z h H locs ls hP hD hS hl
    obtain ⟨y, h, hk⟩ := lp_s h
    rw [f_X10_multiply_L2] at h
    refine lv_iload_n hx hb dX10_multiply_66 rfl (lv_at hl 3 rfl) ?_
    refine lv_bipush (v := 7) hx hb dX10_multiply_67 (by decide) ?_
    refine lv_icmp_ge (tgt := 93) hx hb dX10_multiply_69 (by decide) (fun c_18 => ?_) (fun c_18 => ?_)
    · replace h := it_t h c_18
      obtain rfl := sm1 h
      obtain rfl := sm1 hk
      exact K H locs ls hP hD hS (lv_sub hl [0] rfl)
    · replace h := it_f h c_18
      refine lv_aload_n hx hb dX10_multiply_72 rfl (lv_at hl 0 rfl) ?_
      refine va_get (D := G.1) (ci := 9) (v := .ref q_t_z) (C := RX10) (T := TX10) (N := 21) hx hb hts wi_X10_multiply_X10 hown hK hP 0 rfl rfl 0 (by decide) (hts _ wd_X10_multiply_4) (fun _ h9 => h9) rfl dX10_multiply_73 ?_
      refine lv_bipush (v := 7) hx hb dX10_multiply_76 (by decide) ?_
      refine lv_iload_n hx hb dX10_multiply_78 rfl (lv_at hl 1 rfl) ?_
      refine lv_imul hx hb dX10_multiply_79 ?_
      refine lv_iload_n hx hb dX10_multiply_80 rfl (lv_at hl 3 rfl) ?_
      refine lv_iadd hx hb dX10_multiply_81 ?_
      refine lv_topi (fun v_19 ev_19 => ?_)
      replace h := pl_v h ev_19
      refine lv_dup2_11 hx hb dX10_multiply_82 rfl rfl ?_
      obtain ⟨g_20, h⟩ := gd_ok h
      refine va_iald (D := G.1) hx hb hK hP 1 0 rfl rfl g_20 dX10_multiply_83 ?_
      refine lv_iload_n hx hb dX10_multiply_84 rfl (lv_at hl 2 rfl) ?_
      refine lv_imul hx hb dX10_multiply_85 ?_
      obtain ⟨g_21, h⟩ := gd_ok h
      obtain ⟨t_z_22, et_z_22, h⟩ := pl_ok h
      refine st_i (D := G.1) (wn := [(q_t, .inr (9, [.ref q_t_z, .ref q_t_old, .ref q_t_past, .int t_states, .ref q_t_kept, .int t_isKept, .ref q_t_text, .int t_length, .ref q_t_order, .ref q_t_told, .int t_spot, .int t_toldRows, .ref q_t_rowsTaken, .ref q_t_columnsTaken, .ref q_t_ways, .ref q_t_scaled, .ref q_t_rowFactors, .ref q_t_columnFactors, .ref q_t_rest, .ref q_t_diagonals, .ref q_t_weights])), (q_t_z, .inl (G.2 0, 50, .inl t_z_22)), (q_t_old, .inl (G.2 0, 50, .inl t_old)), (q_t_past, .inl (G.2 0, 200, .inl t_past))]) hx hb hK hP hD hS 1 0 rfl rfl g_21 dX10_multiply_86 et_z_22 rfl (fun H locs hP hD hS => ?_)
      obtain ⟨x3_23, ex3_23, h⟩ := pl_ok h
      refine lv_iinc (v := x3_23) (lv' := [(3, .int x3_23), (0, .ref q_t), (1, .int x1), (2, .int x2)]) hx hb dX10_multiply_87 hl (k := 3) rfl (by rw [ex3_23]; rfl) (by decide) rfl (fun ls hl => ?_)
      refine lv_goto (tgt := 66) hx hb dX10_multiply_90 (by decide) ?_
      obtain rfl := sm1 h
      exact ih x3_23 t_z_22 hk H locs ls hP hD hS (lv_sub hl [1, 2, 3, 0] rfl)
set_option maxHeartbeats 4000000 in
set_option maxRecDepth 100000 in
theorem k_X10_multiply {p : Program} {l : Launch} {e : Env} {s : State} {m : MethodId} {args : Array Value} {below : List Frame} {meth : Method} {c : Code} {Q : State → Prop} {A0 : Nat → Prop} {H0 : Heap} (C : CallFix p m c cX10_multiply 4 s args wsX10_multiply RX10) (G : GT) (hK : gK G s) (hA : ∀ q : Nat, H0.size ≤ q → A0 q) (q_t q_t_z q_t_old q_t_past q_t_kept q_t_text q_t_order q_t_told q_t_rowsTaken q_t_columnsTaken q_t_ways q_t_scaled q_t_rowFactors q_t_columnFactors q_t_rest q_t_diagonals q_t_weights : Nat) (t_states : Int32) (t_isKept : Int32) (t_length : Int32) (t_spot : Int32) (t_toldRows : Int32) (t_z : Nat → Int32) (t_old : Nat → Int32) (t_past : Nat → Int32) (a1 : Int32) (a2 : Int32) (r : Int32) (o_t_states : Int32) (o_t_z : Nat → Int32) (o_t_old : Nat → Int32) (o_t_past : Nat → Int32) (h : f_X10_multiply t_states t_z t_old t_past a1 a2 = some (r, o_t_states, o_t_z, o_t_old, o_t_past)) (KR : ∀ (H : Heap) (locs : List Loc) (ls : Array Slot) (pc : Nat), decode cX10_multiply pc = .ok (.ireturn, 1) → va_P G.1 vwCl [(q_t, .inr (9, [.ref q_t_z, .ref q_t_old, .ref q_t_past, .int o_t_states, .ref q_t_kept, .int t_isKept, .ref q_t_text, .int t_length, .ref q_t_order, .ref q_t_told, .int t_spot, .int t_toldRows, .ref q_t_rowsTaken, .ref q_t_columnsTaken, .ref q_t_ways, .ref q_t_scaled, .ref q_t_rowFactors, .ref q_t_columnFactors, .ref q_t_rest, .ref q_t_diagonals, .ref q_t_weights])), (q_t_z, .inl (G.2 0, 50, .inl o_t_z)), (q_t_old, .inl (G.2 0, 50, .inl o_t_old)), (q_t_past, .inl (G.2 0, 200, .inl o_t_past))] H → va_D A0 [(q_t, .inr (9, [.ref q_t_z, .ref q_t_old, .ref q_t_past, .int o_t_states, .ref q_t_kept, .int t_isKept, .ref q_t_text, .int t_length, .ref q_t_order, .ref q_t_told, .int t_spot, .int t_toldRows, .ref q_t_rowsTaken, .ref q_t_columnsTaken, .ref q_t_ways, .ref q_t_scaled, .ref q_t_rowFactors, .ref q_t_columnFactors, .ref q_t_rest, .ref q_t_diagonals, .ref q_t_weights])), (q_t_z, .inl (G.2 0, 50, .inl o_t_z)), (q_t_old, .inl (G.2 0, 50, .inl o_t_old)), (q_t_past, .inl (G.2 0, 200, .inl o_t_past))] → va_S A0 H0 H locs → W p l e ({ frames := 3, cells := 0, slots := 0, locals := 68 } : Room) s m args below meth c H locs 0 0 Q (F0 m pc ls [.int r])) : ∀ (H : Heap) (locs : List Loc) (ls : Array Slot), va_P G.1 vwCl [(q_t, .inr (9, [.ref q_t_z, .ref q_t_old, .ref q_t_past, .int t_states, .ref q_t_kept, .int t_isKept, .ref q_t_text, .int t_length, .ref q_t_order, .ref q_t_told, .int t_spot, .int t_toldRows, .ref q_t_rowsTaken, .ref q_t_columnsTaken, .ref q_t_ways, .ref q_t_scaled, .ref q_t_rowFactors, .ref q_t_columnFactors, .ref q_t_rest, .ref q_t_diagonals, .ref q_t_weights])), (q_t_z, .inl (G.2 0, 50, .inl t_z)), (q_t_old, .inl (G.2 0, 50, .inl t_old)), (q_t_past, .inl (G.2 0, 200, .inl t_past))] H → va_D A0 [(q_t, .inr (9, [.ref q_t_z, .ref q_t_old, .ref q_t_past, .int t_states, .ref q_t_kept, .int t_isKept, .ref q_t_text, .int t_length, .ref q_t_order, .ref q_t_told, .int t_spot, .int t_toldRows, .ref q_t_rowsTaken, .ref q_t_columnsTaken, .ref q_t_ways, .ref q_t_scaled, .ref q_t_rowFactors, .ref q_t_columnFactors, .ref q_t_rest, .ref q_t_diagonals, .ref q_t_weights])), (q_t_z, .inl (G.2 0, 50, .inl t_z)), (q_t_old, .inl (G.2 0, 50, .inl t_old)), (q_t_past, .inl (G.2 0, 200, .inl t_past))] → va_S A0 H0 H locs → lv_has ls 4 [(0, .ref q_t), (1, .int a1), (2, .int a2)] → W p l e ({ frames := 3, cells := 0, slots := 0, locals := 68 } : Room) s m args below meth c H locs 0 0 Q (F0 m 0 ls []) := by
  obtain ⟨hx, hb, hml, hown, hts⟩ := C
  intro H locs ls hP hD hS hl
  rw [f_X10_multiply] at h
  refine lv_aload_n hx hb dX10_multiply_0 rfl (lv_at hl 0 rfl) ?_
  refine lv_iload_n hx hb dX10_multiply_1 rfl (lv_at hl 1 rfl) ?_
  obtain ⟨r_1, hf_2, h⟩ := bd_ok h
  refine ck_Vi (rest := []) (wn := [(q_t, .inr (9, [.ref q_t_z, .ref q_t_old, .ref q_t_past, .int t_states, .ref q_t_kept, .int t_isKept, .ref q_t_text, .int t_length, .ref q_t_order, .ref q_t_told, .int t_spot, .int t_toldRows, .ref q_t_rowsTaken, .ref q_t_columnsTaken, .ref q_t_ways, .ref q_t_scaled, .ref q_t_rowFactors, .ref q_t_columnFactors, .ref q_t_rest, .ref q_t_diagonals, .ref q_t_weights])), (q_t_z, .inl (G.2 0, 50, .inl t_z)), (q_t_old, .inl (G.2 0, 50, .inl t_old)), (q_t_past, .inl (G.2 0, 200, .inl t_past))]) ⟨hx, hb, hml, hown, hts⟩ hK hP hD hS hA [0, 1] [2, 3] [2, 3, 0, 1] (c_X10_isLine l G q_t q_t_z q_t_old q_t_past q_t_kept q_t_text q_t_order q_t_told q_t_rowsTaken q_t_columnsTaken q_t_ways q_t_scaled q_t_rowFactors q_t_columnFactors q_t_rest q_t_diagonals q_t_weights _ t_states t_isKept t_length t_spot t_toldRows t_z a1 _ hf_2) (cwV 1 hts gX10_multiply_X10_isLine rfl rfl rfl (by decide +kernel) ⟨Nat.le_of_ble_eq_true rfl, Nat.le_of_ble_eq_true rfl⟩) rfl rfl rfl rfl rfl rfl (by decide) rfl rfl rfl hl.1 rfl (Nat.le_of_ble_eq_true rfl) dX10_multiply_2 ⟨Nat.zero_le _, Nat.zero_le _⟩ (fun H locs hP hD hS => ?_)
  refine lv_if_ne (tgt := 11) hx hb dX10_multiply_5 (by decide) (fun c_3 => ?_) (fun c_3 => ?_)
  · replace h := it_f h c_3
    refine lv_iload_n hx hb dX10_multiply_11 rfl (lv_at hl 2 rfl) ?_
    refine lv_bipush (v := -9) hx hb dX10_multiply_12 (by decide) ?_
    refine lv_bipush (v := 9) hx hb dX10_multiply_14 (by decide) ?_
    obtain ⟨r_4, hf_5, h⟩ := bd_ok h
    refine ck_Si (rest := []) (wn := [(q_t, .inr (9, [.ref q_t_z, .ref q_t_old, .ref q_t_past, .int t_states, .ref q_t_kept, .int t_isKept, .ref q_t_text, .int t_length, .ref q_t_order, .ref q_t_told, .int t_spot, .int t_toldRows, .ref q_t_rowsTaken, .ref q_t_columnsTaken, .ref q_t_ways, .ref q_t_scaled, .ref q_t_rowFactors, .ref q_t_columnFactors, .ref q_t_rest, .ref q_t_diagonals, .ref q_t_weights])), (q_t_z, .inl (G.2 0, 50, .inl t_z)), (q_t_old, .inl (G.2 0, 50, .inl t_old)), (q_t_past, .inl (G.2 0, 200, .inl t_past))]) ⟨hx, hb, hml, hown, hts⟩ hK hP hD hS hA [] [0, 1, 2, 3] [0, 1, 2, 3] (c_X10_in l G _ a2 (-9 : Int32) (9 : Int32) _ hf_5) (cwS 3 hts gX10_multiply_X10_in rfl rfl rfl (by decide +kernel) ⟨Nat.le_of_ble_eq_true rfl, Nat.le_of_ble_eq_true rfl⟩) rfl rfl rfl rfl (by decide) rfl rfl rfl hl.1 rfl (Nat.le_of_ble_eq_true rfl) dX10_multiply_16 ⟨Nat.zero_le _, Nat.zero_le _⟩ (fun H locs hP hD hS => ?_)
    refine lv_if_ne (tgt := 25) hx hb dX10_multiply_19 (by decide) (fun c_6 => ?_) (fun c_6 => ?_)
    · replace h := it_f h c_6
      refine lv_iconst (v := 0) hx hb dX10_multiply_25 (by decide) ?_
      refine lv_istore_n (lv' := [(3, .int (0 : Int32)), (0, .ref q_t), (1, .int a1), (2, .int a2)]) hx hb dX10_multiply_26 rfl hl (by decide) rfl (fun ls hl => ?_)
      obtain ⟨z_14, hz_15, h⟩ := bd_ok h
      refine l_X10_multiply_1 ⟨hx, hb, hml, hown, hts⟩ G hK hA q_t q_t_z q_t_old q_t_past q_t_kept q_t_text q_t_order q_t_told q_t_rowsTaken q_t_columnsTaken q_t_ways q_t_scaled q_t_rowFactors q_t_columnFactors q_t_rest q_t_diagonals q_t_weights a1 a2 t_states t_isKept t_length t_spot t_toldRows t_z t_old t_past z_14 ?_ ?_ FU (0 : Int32) hz_15 H locs ls hP hD hS (lv_sub hl [1, 2, 3, 0] rfl)
      · intro  hz H locs ls hP hD hS hl
        subst hz
        refine lv_aload_n hx hb dX10_multiply_60 rfl (lv_at hl 0 rfl) ?_
        obtain ⟨t_old_16, hf_17, h⟩ := bd_ok h
        refine ck_Vv (rest := []) (wn := [(q_t, .inr (9, [.ref q_t_z, .ref q_t_old, .ref q_t_past, .int t_states, .ref q_t_kept, .int t_isKept, .ref q_t_text, .int t_length, .ref q_t_order, .ref q_t_told, .int t_spot, .int t_toldRows, .ref q_t_rowsTaken, .ref q_t_columnsTaken, .ref q_t_ways, .ref q_t_scaled, .ref q_t_rowFactors, .ref q_t_columnFactors, .ref q_t_rest, .ref q_t_diagonals, .ref q_t_weights])), (q_t_z, .inl (G.2 0, 50, .inl t_z)), (q_t_old, .inl (G.2 0, 50, .inl t_old_16)), (q_t_past, .inl (G.2 0, 200, .inl t_past))]) ⟨hx, hb, hml, hown, hts⟩ hK hP hD hS hA [0, 1, 2] [3] [1, 2, 3, 0] (c_X10_takeOld l G q_t q_t_z q_t_old q_t_past q_t_kept q_t_text q_t_order q_t_told q_t_rowsTaken q_t_columnsTaken q_t_ways q_t_scaled q_t_rowFactors q_t_columnFactors q_t_rest q_t_diagonals q_t_weights _ t_states t_isKept t_length t_spot t_toldRows t_z t_old _ hf_17) (cwV 0 hts gX10_multiply_X10_takeOld rfl rfl rfl (by decide +kernel) ⟨Nat.le_of_ble_eq_true rfl, Nat.le_of_ble_eq_true rfl⟩) rfl rfl rfl rfl rfl rfl (by decide) rfl rfl rfl hl.1 rfl (Nat.le_of_ble_eq_true rfl) dX10_multiply_61 ⟨Nat.zero_le _, Nat.zero_le _⟩ (fun H locs hP hD hS => ?_)
        refine lv_iconst (v := 0) hx hb dX10_multiply_64 (by decide) ?_
        refine lv_istore_n (lv' := [(3, .int (0 : Int32)), (0, .ref q_t), (1, .int a1), (2, .int a2)]) hx hb dX10_multiply_65 rfl hl (by decide) rfl (fun ls hl => ?_)
        obtain ⟨t_z_24, hz_26, h⟩ := bd_ok h
        refine l_X10_multiply_2 ⟨hx, hb, hml, hown, hts⟩ G hK hA q_t q_t_z q_t_old q_t_past q_t_kept q_t_text q_t_order q_t_told q_t_rowsTaken q_t_columnsTaken q_t_ways q_t_scaled q_t_rowFactors q_t_columnFactors q_t_rest q_t_diagonals q_t_weights a1 a2 t_states t_isKept t_length t_spot t_toldRows t_old_16 t_past t_z_24 ?_ FU (0 : Int32) t_z hz_26 H locs ls hP hD hS (lv_sub hl [1, 2, 3, 0] rfl)
        intro H locs ls hP hD hS hl
        refine lv_aload_n hx hb dX10_multiply_93 rfl (lv_at hl 0 rfl) ?_
        obtain ⟨⟨r_29, t_states_27, t_past_28⟩, hf_30, h⟩ := bd_ok h
        refine ck_Vi (rest := []) (wn := [(q_t, .inr (9, [.ref q_t_z, .ref q_t_old, .ref q_t_past, .int t_states_27, .ref q_t_kept, .int t_isKept, .ref q_t_text, .int t_length, .ref q_t_order, .ref q_t_told, .int t_spot, .int t_toldRows, .ref q_t_rowsTaken, .ref q_t_columnsTaken, .ref q_t_ways, .ref q_t_scaled, .ref q_t_rowFactors, .ref q_t_columnFactors, .ref q_t_rest, .ref q_t_diagonals, .ref q_t_weights])), (q_t_z, .inl (G.2 0, 50, .inl t_z_24)), (q_t_old, .inl (G.2 0, 50, .inl t_old_16)), (q_t_past, .inl (G.2 0, 200, .inl t_past_28))]) ⟨hx, hb, hml, hown, hts⟩ hK hP hD hS hA [0, 1, 2, 3] [] [0, 1, 2, 3] (c_X10_unlike l G q_t q_t_z q_t_old q_t_past q_t_kept q_t_text q_t_order q_t_told q_t_rowsTaken q_t_columnsTaken q_t_ways q_t_scaled q_t_rowFactors q_t_columnFactors q_t_rest q_t_diagonals q_t_weights _ t_states t_isKept t_length t_spot t_toldRows t_z_24 t_old_16 t_past _ _ _ hf_30) (cwV 0 hts gX10_multiply_X10_unlike rfl rfl rfl (by decide +kernel) ⟨Nat.le_of_ble_eq_true rfl, Nat.le_of_ble_eq_true rfl⟩) rfl rfl rfl rfl rfl rfl (by decide) rfl rfl rfl hl.1 rfl (Nat.le_of_ble_eq_true rfl) dX10_multiply_94 ⟨Nat.zero_le _, Nat.zero_le _⟩ (fun H locs hP hD hS => ?_)
        obtain ⟨rfl, rfl, rfl, rfl, rfl⟩ := sm5 h
        exact KR H locs ls 97 dX10_multiply_97 hP hD hS
      · intro r_31 t_states_32 t_z_33 t_old_34 t_past_35 hz H locs ls pc hd hP hD hS
        subst hz
        obtain ⟨rfl, rfl, rfl, rfl, rfl⟩ := sm5 h
        exact KR H locs ls pc hd hP hD hS
    · replace h := it_t h c_6
      refine lv_ldc (v := -2000000002) hx hb hown (hts _ wd_X10_multiply_2) dX10_multiply_22 ?_
      obtain ⟨rfl, rfl, rfl, rfl, rfl⟩ := sm5 h
      exact KR H locs ls 24 dX10_multiply_24 hP hD hS
  · replace h := it_t h c_3
    refine lv_ldc (v := -2000000001) hx hb hown (hts _ wd_X10_multiply_1) dX10_multiply_8 ?_
    obtain ⟨rfl, rfl, rfl, rfl, rfl⟩ := sm5 h
    exact KR H locs ls 10 dX10_multiply_10 hP hD hS
set_option maxHeartbeats 4000000 in
set_option maxRecDepth 100000 in
theorem c_X10_multiply (l : Launch) (G : GT) (q_t q_t_z q_t_old q_t_past q_t_kept q_t_text q_t_order q_t_told q_t_rowsTaken q_t_columnsTaken q_t_ways q_t_scaled q_t_rowFactors q_t_columnFactors q_t_rest q_t_diagonals q_t_weights : Nat) (sz : Nat) (t_states : Int32) (t_isKept : Int32) (t_length : Int32) (t_spot : Int32) (t_toldRows : Int32) (t_z : Nat → Int32) (t_old : Nat → Int32) (t_past : Nat → Int32) (a1 : Int32) (a2 : Int32) (r : Int32) (o_t_states : Int32) (o_t_z : Nat → Int32) (o_t_old : Nat → Int32) (o_t_past : Nat → Int32) (h : f_X10_multiply t_states t_z t_old t_past a1 a2 = some (r, o_t_states, o_t_z, o_t_old, o_t_past)) : Met l yX10_multiply wsX10_multiply ({ frames := 3, cells := 0, slots := 0, locals := 68 } : Room) (va_Pc [.ref q_t, .int a1, .int a2] (pcW G [(q_t, .inr (9, [.ref q_t_z, .ref q_t_old, .ref q_t_past, .int t_states, .ref q_t_kept, .int t_isKept, .ref q_t_text, .int t_length, .ref q_t_order, .ref q_t_told, .int t_spot, .int t_toldRows, .ref q_t_rowsTaken, .ref q_t_columnsTaken, .ref q_t_ways, .ref q_t_scaled, .ref q_t_rowFactors, .ref q_t_columnFactors, .ref q_t_rest, .ref q_t_diagonals, .ref q_t_weights])), (q_t_z, .inl (G.2 0, 50, .inl t_z)), (q_t_old, .inl (G.2 0, 50, .inl t_old)), (q_t_past, .inl (G.2 0, 200, .inl t_past))] sz)) (va_Qi (fun r9 (_ : Unit) => r9 = r) (fun _ t => atW G (va_A [(q_t, .inr (9, [.ref q_t_z, .ref q_t_old, .ref q_t_past, .int t_states, .ref q_t_kept, .int t_isKept, .ref q_t_text, .int t_length, .ref q_t_order, .ref q_t_told, .int t_spot, .int t_toldRows, .ref q_t_rowsTaken, .ref q_t_columnsTaken, .ref q_t_ways, .ref q_t_scaled, .ref q_t_rowFactors, .ref q_t_columnFactors, .ref q_t_rest, .ref q_t_diagonals, .ref q_t_weights])), (q_t_z, .inl (G.2 0, 50, .inl t_z)), (q_t_old, .inl (G.2 0, 50, .inl t_old)), (q_t_past, .inl (G.2 0, 200, .inl t_past))] sz) [(q_t, .inr (9, [.ref q_t_z, .ref q_t_old, .ref q_t_past, .int o_t_states, .ref q_t_kept, .int t_isKept, .ref q_t_text, .int t_length, .ref q_t_order, .ref q_t_told, .int t_spot, .int t_toldRows, .ref q_t_rowsTaken, .ref q_t_columnsTaken, .ref q_t_ways, .ref q_t_scaled, .ref q_t_rowFactors, .ref q_t_columnFactors, .ref q_t_rest, .ref q_t_diagonals, .ref q_t_weights])), (q_t_z, .inl (G.2 0, 50, .inl o_t_z)), (q_t_old, .inl (G.2 0, 50, .inl o_t_old)), (q_t_past, .inl (G.2 0, 200, .inl o_t_past))] t) (va_A [(q_t, .inr (9, [.ref q_t_z, .ref q_t_old, .ref q_t_past, .int t_states, .ref q_t_kept, .int t_isKept, .ref q_t_text, .int t_length, .ref q_t_order, .ref q_t_told, .int t_spot, .int t_toldRows, .ref q_t_rowsTaken, .ref q_t_columnsTaken, .ref q_t_ways, .ref q_t_scaled, .ref q_t_rowFactors, .ref q_t_columnFactors, .ref q_t_rest, .ref q_t_diagonals, .ref q_t_weights])), (q_t_z, .inl (G.2 0, 50, .inl t_z)), (q_t_old, .inl (G.2 0, 50, .inl t_old)), (q_t_past, .inl (G.2 0, 200, .inl t_past))] sz)) 0 0 (va_A [(q_t, .inr (9, [.ref q_t_z, .ref q_t_old, .ref q_t_past, .int t_states, .ref q_t_kept, .int t_isKept, .ref q_t_text, .int t_length, .ref q_t_order, .ref q_t_told, .int t_spot, .int t_toldRows, .ref q_t_rowsTaken, .ref q_t_columnsTaken, .ref q_t_ways, .ref q_t_scaled, .ref q_t_rowFactors, .ref q_t_columnFactors, .ref q_t_rest, .ref q_t_diagonals, .ref q_t_weights])), (q_t_z, .inl (G.2 0, 50, .inl t_z)), (q_t_old, .inl (G.2 0, 50, .inl t_old)), (q_t_past, .inl (G.2 0, 200, .inl t_past))] sz) := by
  refine Met.ofW (cc := cX10_multiply) (maxL := 4) (ret := (some .int)) (by decide) rfl ?_
  intro p e s m args below meth c s₁ B hml hv
  obtain ⟨rfl, hsz, hP, hK, hD0⟩ := hv
  subst hsz
  have hD := hD0.self (sz := s.heap.size)
  generalize hAe : va_A [(q_t, .inr (9, [.ref q_t_z, .ref q_t_old, .ref q_t_past, .int t_states, .ref q_t_kept, .int t_isKept, .ref q_t_text, .int t_length, .ref q_t_order, .ref q_t_told, .int t_spot, .int t_toldRows, .ref q_t_rowsTaken, .ref q_t_columnsTaken, .ref q_t_ways, .ref q_t_scaled, .ref q_t_rowFactors, .ref q_t_columnFactors, .ref q_t_rest, .ref q_t_diagonals, .ref q_t_weights])), (q_t_z, .inl (G.2 0, 50, .inl t_z)), (q_t_old, .inl (G.2 0, 50, .inl t_old)), (q_t_past, .inl (G.2 0, 200, .inl t_past))] s.heap.size = A at hD ⊢
  have hA : ∀ q : Nat, s.heap.size ≤ q → A q := fun q h => by rw [← hAe]; exact Or.inr h
  have hl := lv_entry ([.ref q_t, .int a1, .int a2]) (n := 4) (Nat.le_of_ble_eq_true rfl)
  rw [lg_entry_eq]
  refine k_X10_multiply ⟨B.exec, B.bytes, hml, findClass_of_methodNamed B.named, atoms_spec (ws := wsX10_multiply) B.pre⟩ G hK hA q_t q_t_z q_t_old q_t_past q_t_kept q_t_text q_t_order q_t_told q_t_rowsTaken q_t_columnsTaken q_t_ways q_t_scaled q_t_rowFactors q_t_columnFactors q_t_rest q_t_diagonals q_t_weights _ _ _ _ _ _ _ _ _ _ _ _ _ _ _ h ?_ _ _ _ hP hD va_S.rf hl
  intro H locs ls pc hd hP hD hS
  exact W.iret B.exec B.bytes B.returns (fun t ht hW => ⟨⟨r, (), rfl, rfl, by rw [ht]; exact hP, hD⟩, hS.F ht⟩) hS.2.2 hd B.notSynchronized
set_option maxRecDepth 20000 in
theorem wd_X10_firstOrder_1 : Cond.fieldLink RX10 25 "PermanentDeskModel" "order" "[I" ∈ wsX10_firstOrder := List.mem_of_getElem? (i := 1) (by decide +kernel)
set_option maxRecDepth 20000 in
theorem wi_X10_firstOrder_X10 : ∀ w ∈ u_ws RX10 TX10 21, w ∈ wsX10_firstOrder := by decide +kernel
def f_X10_firstOrder_L1 (x1 : Int32) : (Int32 × (Nat → Int32)) → Option ((Int32 × (Nat → Int32)) ⊕ (Nat → Int32))
  | (x2, t_order) =>
    if x1 ≤ x2 then
      some (.inr t_order)
    else
      gd (okI x2 7) (
      pl ((upd t_order x2.toNatClampNeg x2) : Nat → Int32) (fun t_order_3 =>
      pl ((x2 + (1 : Int32)) : Int32) (fun x2_4 =>
      some (.inl (x2_4, t_order_3)))))
def f_X10_firstOrder (t_order : Nat → Int32) (a1 : Int32) : Option (Nat → Int32) :=
  (lpN (f_X10_firstOrder_L1 a1) FU ((0 : Int32), t_order)).bind (fun t_order_5 =>
  some t_order_5)
set_option maxHeartbeats 4000000 in
set_option maxRecDepth 100000 in
theorem l_X10_firstOrder_1 {p : Program} {l : Launch} {e : Env} {s : State} {m : MethodId} {args : Array Value} {below : List Frame} {meth : Method} {c : Code} {Q : State → Prop} {A0 : Nat → Prop} {H0 : Heap} (C : CallFix p m c cX10_firstOrder 3 s args wsX10_firstOrder RX10) (G : GT) (hK : gK G s) (hA : ∀ q : Nat, H0.size ≤ q → A0 q) (q_t q_t_z q_t_old q_t_past q_t_kept q_t_text q_t_order q_t_told q_t_rowsTaken q_t_columnsTaken q_t_ways q_t_scaled q_t_rowFactors q_t_columnFactors q_t_rest q_t_diagonals q_t_weights : Nat) (x1 : Int32) (t_states : Int32) (t_isKept : Int32) (t_length : Int32) (t_spot : Int32) (t_toldRows : Int32) (E_t_order : Nat → Int32) (K : ∀ (H : Heap) (locs : List Loc) (ls : Array Slot), va_P G.1 vwCl [(q_t, .inr (9, [.ref q_t_z, .ref q_t_old, .ref q_t_past, .int t_states, .ref q_t_kept, .int t_isKept, .ref q_t_text, .int t_length, .ref q_t_order, .ref q_t_told, .int t_spot, .int t_toldRows, .ref q_t_rowsTaken, .ref q_t_columnsTaken, .ref q_t_ways, .ref q_t_scaled, .ref q_t_rowFactors, .ref q_t_columnFactors, .ref q_t_rest, .ref q_t_diagonals, .ref q_t_weights])), (q_t_order, .inl (G.2 0, 7, .inl E_t_order))] H → va_D A0 [(q_t, .inr (9, [.ref q_t_z, .ref q_t_old, .ref q_t_past, .int t_states, .ref q_t_kept, .int t_isKept, .ref q_t_text, .int t_length, .ref q_t_order, .ref q_t_told, .int t_spot, .int t_toldRows, .ref q_t_rowsTaken, .ref q_t_columnsTaken, .ref q_t_ways, .ref q_t_scaled, .ref q_t_rowFactors, .ref q_t_columnFactors, .ref q_t_rest, .ref q_t_diagonals, .ref q_t_weights])), (q_t_order, .inl (G.2 0, 7, .inl E_t_order))] → va_S A0 H0 H locs → lv_has ls 3 [] → W p l e ({ frames := 0, cells := 0, slots := 0, locals := 0 } : Room) s m args below meth c H locs 0 0 Q (F0 m 20 ls [])) : ∀ (n : Nat) (x2 : Int32) (t_order : Nat → Int32), lpN (f_X10_firstOrder_L1 x1) n (x2, t_order) = some E_t_order → ∀ (H : Heap) (locs : List Loc) (ls : Array Slot), va_P G.1 vwCl [(q_t, .inr (9, [.ref q_t_z, .ref q_t_old, .ref q_t_past, .int t_states, .ref q_t_kept, .int t_isKept, .ref q_t_text, .int t_length, .ref q_t_order, .ref q_t_told, .int t_spot, .int t_toldRows, .ref q_t_rowsTaken, .ref q_t_columnsTaken, .ref q_t_ways, .ref q_t_scaled, .ref q_t_rowFactors, .ref q_t_columnFactors, .ref q_t_rest, .ref q_t_diagonals, .ref q_t_weights])), (q_t_order, .inl (G.2 0, 7, .inl t_order))] H → va_D A0 [(q_t, .inr (9, [.ref q_t_z, .ref q_t_old, .ref q_t_past, .int t_states, .ref q_t_kept, .int t_isKept, .ref q_t_text, .int t_length, .ref q_t_order, .ref q_t_told, .int t_spot, .int t_toldRows, .ref q_t_rowsTaken, .ref q_t_columnsTaken, .ref q_t_ways, .ref q_t_scaled, .ref q_t_rowFactors, .ref q_t_columnFactors, .ref q_t_rest, .ref q_t_diagonals, .ref q_t_weights])), (q_t_order, .inl (G.2 0, 7, .inl t_order))] → va_S A0 H0 H locs → lv_has ls 3 [(0, .ref q_t), (1, .int x1), (2, .int x2)] → W p l e ({ frames := 0, cells := 0, slots := 0, locals := 0 } : Room) s m args below meth c H locs 0 0 Q (F0 m 2 ls []) := by
  obtain ⟨hx, hb, hml, hown, hts⟩ := C
  intro n
  induction n with
  | zero => intro x2 t_order h; exact absurd h (fun h => lp_0 h)
  | succ n ih =>
    intro x2 t_order h H locs ls hP hD hS hl
    obtain ⟨y, h, hk⟩ := lp_s h
    rw [f_X10_firstOrder_L1] at h
    refine lv_iload_n hx hb dX10_firstOrder_2 rfl (lv_at hl 2 rfl) ?_
    refine lv_iload_n hx hb dX10_firstOrder_3 rfl (lv_at hl 1 rfl) ?_
    refine lv_icmp_ge (tgt := 20) hx hb dX10_firstOrder_4 (by decide) (fun c_1 => ?_) (fun c_1 => ?_)
    · replace h := it_t h c_1
      obtain rfl := sm1 h
      obtain rfl := sm1 hk
      exact K H locs ls hP hD hS (lv_sub hl [] rfl)
    · replace h := it_f h c_1
      refine lv_aload_n hx hb dX10_firstOrder_7 rfl (lv_at hl 0 rfl) ?_
      refine va_get (D := G.1) (ci := 9) (v := .ref q_t_order) (C := RX10) (T := TX10) (N := 21) hx hb hts wi_X10_firstOrder_X10 hown hK hP 0 rfl rfl 8 (by decide) (hts _ wd_X10_firstOrder_1) (fun _ h9 => h9) rfl dX10_firstOrder_8 ?_
      refine lv_iload_n hx hb dX10_firstOrder_11 rfl (lv_at hl 2 rfl) ?_
      refine lv_iload_n hx hb dX10_firstOrder_12 rfl (lv_at hl 2 rfl) ?_
      obtain ⟨g_2, h⟩ := gd_ok h
      obtain ⟨t_order_3, et_order_3, h⟩ := pl_ok h
      refine st_i (D := G.1) (wn := [(q_t, .inr (9, [.ref q_t_z, .ref q_t_old, .ref q_t_past, .int t_states, .ref q_t_kept, .int t_isKept, .ref q_t_text, .int t_length, .ref q_t_order, .ref q_t_told, .int t_spot, .int t_toldRows, .ref q_t_rowsTaken, .ref q_t_columnsTaken, .ref q_t_ways, .ref q_t_scaled, .ref q_t_rowFactors, .ref q_t_columnFactors, .ref q_t_rest, .ref q_t_diagonals, .ref q_t_weights])), (q_t_order, .inl (G.2 0, 7, .inl t_order_3))]) hx hb hK hP hD hS 1 0 rfl rfl g_2 dX10_firstOrder_13 et_order_3 rfl (fun H locs hP hD hS => ?_)
      obtain ⟨x2_4, ex2_4, h⟩ := pl_ok h
      refine lv_iinc (v := x2_4) (lv' := [(2, .int x2_4), (0, .ref q_t), (1, .int x1)]) hx hb dX10_firstOrder_14 hl (k := 2) rfl (by rw [ex2_4]; rfl) (by decide) rfl (fun ls hl => ?_)
      refine lv_goto (tgt := 2) hx hb dX10_firstOrder_17 (by decide) ?_
      obtain rfl := sm1 h
      exact ih x2_4 t_order_3 hk H locs ls hP hD hS (lv_sub hl [1, 2, 0] rfl)
set_option maxHeartbeats 4000000 in
set_option maxRecDepth 100000 in
theorem k_X10_firstOrder {p : Program} {l : Launch} {e : Env} {s : State} {m : MethodId} {args : Array Value} {below : List Frame} {meth : Method} {c : Code} {Q : State → Prop} {A0 : Nat → Prop} {H0 : Heap} (C : CallFix p m c cX10_firstOrder 3 s args wsX10_firstOrder RX10) (G : GT) (hK : gK G s) (hA : ∀ q : Nat, H0.size ≤ q → A0 q) (q_t q_t_z q_t_old q_t_past q_t_kept q_t_text q_t_order q_t_told q_t_rowsTaken q_t_columnsTaken q_t_ways q_t_scaled q_t_rowFactors q_t_columnFactors q_t_rest q_t_diagonals q_t_weights : Nat) (t_states : Int32) (t_isKept : Int32) (t_length : Int32) (t_spot : Int32) (t_toldRows : Int32) (t_order : Nat → Int32) (a1 : Int32) (o_t_order : Nat → Int32) (h : f_X10_firstOrder t_order a1 = some o_t_order) (KR : ∀ (H : Heap) (locs : List Loc) (ls : Array Slot) (pc : Nat), decode cX10_firstOrder pc = .ok (.return_, 1) → va_P G.1 vwCl [(q_t, .inr (9, [.ref q_t_z, .ref q_t_old, .ref q_t_past, .int t_states, .ref q_t_kept, .int t_isKept, .ref q_t_text, .int t_length, .ref q_t_order, .ref q_t_told, .int t_spot, .int t_toldRows, .ref q_t_rowsTaken, .ref q_t_columnsTaken, .ref q_t_ways, .ref q_t_scaled, .ref q_t_rowFactors, .ref q_t_columnFactors, .ref q_t_rest, .ref q_t_diagonals, .ref q_t_weights])), (q_t_order, .inl (G.2 0, 7, .inl o_t_order))] H → va_D A0 [(q_t, .inr (9, [.ref q_t_z, .ref q_t_old, .ref q_t_past, .int t_states, .ref q_t_kept, .int t_isKept, .ref q_t_text, .int t_length, .ref q_t_order, .ref q_t_told, .int t_spot, .int t_toldRows, .ref q_t_rowsTaken, .ref q_t_columnsTaken, .ref q_t_ways, .ref q_t_scaled, .ref q_t_rowFactors, .ref q_t_columnFactors, .ref q_t_rest, .ref q_t_diagonals, .ref q_t_weights])), (q_t_order, .inl (G.2 0, 7, .inl o_t_order))] → va_S A0 H0 H locs → W p l e ({ frames := 0, cells := 0, slots := 0, locals := 0 } : Room) s m args below meth c H locs 0 0 Q (F0 m pc ls [])) : ∀ (H : Heap) (locs : List Loc) (ls : Array Slot), va_P G.1 vwCl [(q_t, .inr (9, [.ref q_t_z, .ref q_t_old, .ref q_t_past, .int t_states, .ref q_t_kept, .int t_isKept, .ref q_t_text, .int t_length, .ref q_t_order, .ref q_t_told, .int t_spot, .int t_toldRows, .ref q_t_rowsTaken, .ref q_t_columnsTaken, .ref q_t_ways, .ref q_t_scaled, .ref q_t_rowFactors, .ref q_t_columnFactors, .ref q_t_rest, .ref q_t_diagonals, .ref q_t_weights])), (q_t_order, .inl (G.2 0, 7, .inl t_order))] H → va_D A0 [(q_t, .inr (9, [.ref q_t_z, .ref q_t_old, .ref q_t_past, .int t_states, .ref q_t_kept, .int t_isKept, .ref q_t_text, .int t_length, .ref q_t_order, .ref q_t_told, .int t_spot, .int t_toldRows, .ref q_t_rowsTaken, .ref q_t_columnsTaken, .ref q_t_ways, .ref q_t_scaled, .ref q_t_rowFactors, .ref q_t_columnFactors, .ref q_t_rest, .ref q_t_diagonals, .ref q_t_weights])), (q_t_order, .inl (G.2 0, 7, .inl t_order))] → va_S A0 H0 H locs → lv_has ls 3 [(0, .ref q_t), (1, .int a1)] → W p l e ({ frames := 0, cells := 0, slots := 0, locals := 0 } : Room) s m args below meth c H locs 0 0 Q (F0 m 0 ls []) := by
  obtain ⟨hx, hb, hml, hown, hts⟩ := C
  intro H locs ls hP hD hS hl
  rw [f_X10_firstOrder] at h
  refine lv_iconst (v := 0) hx hb dX10_firstOrder_0 (by decide) ?_
  refine lv_istore_n (lv' := [(2, .int (0 : Int32)), (0, .ref q_t), (1, .int a1)]) hx hb dX10_firstOrder_1 rfl hl (by decide) rfl (fun ls hl => ?_)
  obtain ⟨t_order_5, hz_7, h⟩ := bd_ok h
  refine l_X10_firstOrder_1 ⟨hx, hb, hml, hown, hts⟩ G hK hA q_t q_t_z q_t_old q_t_past q_t_kept q_t_text q_t_order q_t_told q_t_rowsTaken q_t_columnsTaken q_t_ways q_t_scaled q_t_rowFactors q_t_columnFactors q_t_rest q_t_diagonals q_t_weights a1 t_states t_isKept t_length t_spot t_toldRows t_order_5 ?_ FU (0 : Int32) t_order hz_7 H locs ls hP hD hS (lv_sub hl [1, 2, 0] rfl)
  intro H locs ls hP hD hS hl
  obtain rfl := sm1 h
  exact KR H locs ls 20 dX10_firstOrder_20 hP hD hS
set_option maxHeartbeats 4000000 in
set_option maxRecDepth 100000 in
theorem c_X10_firstOrder (l : Launch) (G : GT) (q_t q_t_z q_t_old q_t_past q_t_kept q_t_text q_t_order q_t_told q_t_rowsTaken q_t_columnsTaken q_t_ways q_t_scaled q_t_rowFactors q_t_columnFactors q_t_rest q_t_diagonals q_t_weights : Nat) (sz : Nat) (t_states : Int32) (t_isKept : Int32) (t_length : Int32) (t_spot : Int32) (t_toldRows : Int32) (t_order : Nat → Int32) (a1 : Int32) (o_t_order : Nat → Int32) (h : f_X10_firstOrder t_order a1 = some o_t_order) : Met l yX10_firstOrder wsX10_firstOrder ({ frames := 0, cells := 0, slots := 0, locals := 0 } : Room) (va_Pc [.ref q_t, .int a1] (pcW G [(q_t, .inr (9, [.ref q_t_z, .ref q_t_old, .ref q_t_past, .int t_states, .ref q_t_kept, .int t_isKept, .ref q_t_text, .int t_length, .ref q_t_order, .ref q_t_told, .int t_spot, .int t_toldRows, .ref q_t_rowsTaken, .ref q_t_columnsTaken, .ref q_t_ways, .ref q_t_scaled, .ref q_t_rowFactors, .ref q_t_columnFactors, .ref q_t_rest, .ref q_t_diagonals, .ref q_t_weights])), (q_t_order, .inl (G.2 0, 7, .inl t_order))] sz)) (va_Qv (fun (_ : Unit) => True) (fun _ t => atW G (va_A [(q_t, .inr (9, [.ref q_t_z, .ref q_t_old, .ref q_t_past, .int t_states, .ref q_t_kept, .int t_isKept, .ref q_t_text, .int t_length, .ref q_t_order, .ref q_t_told, .int t_spot, .int t_toldRows, .ref q_t_rowsTaken, .ref q_t_columnsTaken, .ref q_t_ways, .ref q_t_scaled, .ref q_t_rowFactors, .ref q_t_columnFactors, .ref q_t_rest, .ref q_t_diagonals, .ref q_t_weights])), (q_t_order, .inl (G.2 0, 7, .inl t_order))] sz) [(q_t, .inr (9, [.ref q_t_z, .ref q_t_old, .ref q_t_past, .int t_states, .ref q_t_kept, .int t_isKept, .ref q_t_text, .int t_length, .ref q_t_order, .ref q_t_told, .int t_spot, .int t_toldRows, .ref q_t_rowsTaken, .ref q_t_columnsTaken, .ref q_t_ways, .ref q_t_scaled, .ref q_t_rowFactors, .ref q_t_columnFactors, .ref q_t_rest, .ref q_t_diagonals, .ref q_t_weights])), (q_t_order, .inl (G.2 0, 7, .inl o_t_order))] t) (va_A [(q_t, .inr (9, [.ref q_t_z, .ref q_t_old, .ref q_t_past, .int t_states, .ref q_t_kept, .int t_isKept, .ref q_t_text, .int t_length, .ref q_t_order, .ref q_t_told, .int t_spot, .int t_toldRows, .ref q_t_rowsTaken, .ref q_t_columnsTaken, .ref q_t_ways, .ref q_t_scaled, .ref q_t_rowFactors, .ref q_t_columnFactors, .ref q_t_rest, .ref q_t_diagonals, .ref q_t_weights])), (q_t_order, .inl (G.2 0, 7, .inl t_order))] sz)) 0 0 (va_A [(q_t, .inr (9, [.ref q_t_z, .ref q_t_old, .ref q_t_past, .int t_states, .ref q_t_kept, .int t_isKept, .ref q_t_text, .int t_length, .ref q_t_order, .ref q_t_told, .int t_spot, .int t_toldRows, .ref q_t_rowsTaken, .ref q_t_columnsTaken, .ref q_t_ways, .ref q_t_scaled, .ref q_t_rowFactors, .ref q_t_columnFactors, .ref q_t_rest, .ref q_t_diagonals, .ref q_t_weights])), (q_t_order, .inl (G.2 0, 7, .inl t_order))] sz) := by
  refine Met.ofW (cc := cX10_firstOrder) (maxL := 3) (ret := none) (by decide) rfl ?_
  intro p e s m args below meth c s₁ B hml hv
  obtain ⟨rfl, hsz, hP, hK, hD0⟩ := hv
  subst hsz
  have hD := hD0.self (sz := s.heap.size)
  generalize hAe : va_A [(q_t, .inr (9, [.ref q_t_z, .ref q_t_old, .ref q_t_past, .int t_states, .ref q_t_kept, .int t_isKept, .ref q_t_text, .int t_length, .ref q_t_order, .ref q_t_told, .int t_spot, .int t_toldRows, .ref q_t_rowsTaken, .ref q_t_columnsTaken, .ref q_t_ways, .ref q_t_scaled, .ref q_t_rowFactors, .ref q_t_columnFactors, .ref q_t_rest, .ref q_t_diagonals, .ref q_t_weights])), (q_t_order, .inl (G.2 0, 7, .inl t_order))] s.heap.size = A at hD ⊢
  have hA : ∀ q : Nat, s.heap.size ≤ q → A q := fun q h => by rw [← hAe]; exact Or.inr h
  have hl := lv_entry ([.ref q_t, .int a1]) (n := 3) (Nat.le_of_ble_eq_true rfl)
  rw [lg_entry_eq]
  refine k_X10_firstOrder ⟨B.exec, B.bytes, hml, findClass_of_methodNamed B.named, atoms_spec (ws := wsX10_firstOrder) B.pre⟩ G hK hA q_t q_t_z q_t_old q_t_past q_t_kept q_t_text q_t_order q_t_told q_t_rowsTaken q_t_columnsTaken q_t_ways q_t_scaled q_t_rowFactors q_t_columnFactors q_t_rest q_t_diagonals q_t_weights _ _ _ _ _ _ _ _ h ?_ _ _ _ hP hD va_S.rf hl
  intro H locs ls pc hd hP hD hS
  exact W.vret B.exec B.bytes B.returns (fun t ht hW => ⟨⟨(), rfl, trivial, by rw [ht]; exact hP, hD⟩, hS.F ht⟩) hS.2.2 hd B.notSynchronized
set_option maxRecDepth 20000 in
theorem wd_X10_exchange_1 : Cond.fieldLink RX10 25 "PermanentDeskModel" "order" "[I" ∈ wsX10_exchange := List.mem_of_getElem? (i := 1) (by decide +kernel)
set_option maxRecDepth 20000 in
theorem wi_X10_exchange_X10 : ∀ w ∈ u_ws RX10 TX10 21, w ∈ wsX10_exchange := by decide +kernel
def f_X10_exchange (t_order : Nat → Int32) (a1 : Int32) (a2 : Int32) : Option (Nat → Int32) :=
  gd (okI a1 7) (
  pl ((t_order a1.toNatClampNeg) : Int32) (fun x3_2 =>
  gd (okI a2 7) (
  gd (okI a1 7) (
  pl ((upd t_order a1.toNatClampNeg (t_order a2.toNatClampNeg)) : Nat → Int32) (fun t_order_5 =>
  gd (okI a2 7) (
  pl ((upd t_order_5 a2.toNatClampNeg x3_2) : Nat → Int32) (fun t_order_7 =>
  some t_order_7)))))))
set_option maxHeartbeats 4000000 in
set_option maxRecDepth 100000 in
theorem k_X10_exchange {p : Program} {l : Launch} {e : Env} {s : State} {m : MethodId} {args : Array Value} {below : List Frame} {meth : Method} {c : Code} {Q : State → Prop} {A0 : Nat → Prop} {H0 : Heap} (C : CallFix p m c cX10_exchange 4 s args wsX10_exchange RX10) (G : GT) (hK : gK G s) (hA : ∀ q : Nat, H0.size ≤ q → A0 q) (q_t q_t_z q_t_old q_t_past q_t_kept q_t_text q_t_order q_t_told q_t_rowsTaken q_t_columnsTaken q_t_ways q_t_scaled q_t_rowFactors q_t_columnFactors q_t_rest q_t_diagonals q_t_weights : Nat) (t_states : Int32) (t_isKept : Int32) (t_length : Int32) (t_spot : Int32) (t_toldRows : Int32) (t_order : Nat → Int32) (a1 : Int32) (a2 : Int32) (o_t_order : Nat → Int32) (h : f_X10_exchange t_order a1 a2 = some o_t_order) (KR : ∀ (H : Heap) (locs : List Loc) (ls : Array Slot) (pc : Nat), decode cX10_exchange pc = .ok (.return_, 1) → va_P G.1 vwCl [(q_t, .inr (9, [.ref q_t_z, .ref q_t_old, .ref q_t_past, .int t_states, .ref q_t_kept, .int t_isKept, .ref q_t_text, .int t_length, .ref q_t_order, .ref q_t_told, .int t_spot, .int t_toldRows, .ref q_t_rowsTaken, .ref q_t_columnsTaken, .ref q_t_ways, .ref q_t_scaled, .ref q_t_rowFactors, .ref q_t_columnFactors, .ref q_t_rest, .ref q_t_diagonals, .ref q_t_weights])), (q_t_order, .inl (G.2 0, 7, .inl o_t_order))] H → va_D A0 [(q_t, .inr (9, [.ref q_t_z, .ref q_t_old, .ref q_t_past, .int t_states, .ref q_t_kept, .int t_isKept, .ref q_t_text, .int t_length, .ref q_t_order, .ref q_t_told, .int t_spot, .int t_toldRows, .ref q_t_rowsTaken, .ref q_t_columnsTaken, .ref q_t_ways, .ref q_t_scaled, .ref q_t_rowFactors, .ref q_t_columnFactors, .ref q_t_rest, .ref q_t_diagonals, .ref q_t_weights])), (q_t_order, .inl (G.2 0, 7, .inl o_t_order))] → va_S A0 H0 H locs → W p l e ({ frames := 0, cells := 0, slots := 0, locals := 0 } : Room) s m args below meth c H locs 0 0 Q (F0 m pc ls [])) : ∀ (H : Heap) (locs : List Loc) (ls : Array Slot), va_P G.1 vwCl [(q_t, .inr (9, [.ref q_t_z, .ref q_t_old, .ref q_t_past, .int t_states, .ref q_t_kept, .int t_isKept, .ref q_t_text, .int t_length, .ref q_t_order, .ref q_t_told, .int t_spot, .int t_toldRows, .ref q_t_rowsTaken, .ref q_t_columnsTaken, .ref q_t_ways, .ref q_t_scaled, .ref q_t_rowFactors, .ref q_t_columnFactors, .ref q_t_rest, .ref q_t_diagonals, .ref q_t_weights])), (q_t_order, .inl (G.2 0, 7, .inl t_order))] H → va_D A0 [(q_t, .inr (9, [.ref q_t_z, .ref q_t_old, .ref q_t_past, .int t_states, .ref q_t_kept, .int t_isKept, .ref q_t_text, .int t_length, .ref q_t_order, .ref q_t_told, .int t_spot, .int t_toldRows, .ref q_t_rowsTaken, .ref q_t_columnsTaken, .ref q_t_ways, .ref q_t_scaled, .ref q_t_rowFactors, .ref q_t_columnFactors, .ref q_t_rest, .ref q_t_diagonals, .ref q_t_weights])), (q_t_order, .inl (G.2 0, 7, .inl t_order))] → va_S A0 H0 H locs → lv_has ls 4 [(0, .ref q_t), (1, .int a1), (2, .int a2)] → W p l e ({ frames := 0, cells := 0, slots := 0, locals := 0 } : Room) s m args below meth c H locs 0 0 Q (F0 m 0 ls []) := by
  obtain ⟨hx, hb, hml, hown, hts⟩ := C
  intro H locs ls hP hD hS hl
  rw [f_X10_exchange] at h
  refine lv_aload_n hx hb dX10_exchange_0 rfl (lv_at hl 0 rfl) ?_
  refine va_get (D := G.1) (ci := 9) (v := .ref q_t_order) (C := RX10) (T := TX10) (N := 21) hx hb hts wi_X10_exchange_X10 hown hK hP 0 rfl rfl 8 (by decide) (hts _ wd_X10_exchange_1) (fun _ h9 => h9) rfl dX10_exchange_1 ?_
  refine lv_iload_n hx hb dX10_exchange_4 rfl (lv_at hl 1 rfl) ?_
  obtain ⟨g_1, h⟩ := gd_ok h
  refine va_iald (D := G.1) hx hb hK hP 1 0 rfl rfl g_1 dX10_exchange_5 ?_
  refine lv_topi (fun x3_2 ex3_2 => ?_)
  replace h := pl_v h ex3_2
  refine lv_istore_n (lv' := [(3, .int x3_2), (0, .ref q_t), (1, .int a1), (2, .int a2)]) hx hb dX10_exchange_6 rfl hl (by decide) rfl (fun ls hl => ?_)
  refine lv_aload_n hx hb dX10_exchange_7 rfl (lv_at hl 1 rfl) ?_
  refine va_get (D := G.1) (ci := 9) (v := .ref q_t_order) (C := RX10) (T := TX10) (N := 21) hx hb hts wi_X10_exchange_X10 hown hK hP 0 rfl rfl 8 (by decide) (hts _ wd_X10_exchange_1) (fun _ h9 => h9) rfl dX10_exchange_8 ?_
  refine lv_iload_n hx hb dX10_exchange_11 rfl (lv_at hl 2 rfl) ?_
  refine lv_aload_n hx hb dX10_exchange_12 rfl (lv_at hl 1 rfl) ?_
  refine va_get (D := G.1) (ci := 9) (v := .ref q_t_order) (C := RX10) (T := TX10) (N := 21) hx hb hts wi_X10_exchange_X10 hown hK hP 0 rfl rfl 8 (by decide) (hts _ wd_X10_exchange_1) (fun _ h9 => h9) rfl dX10_exchange_13 ?_
  refine lv_iload_n hx hb dX10_exchange_16 rfl (lv_at hl 3 rfl) ?_
  obtain ⟨g_3, h⟩ := gd_ok h
  refine va_iald (D := G.1) hx hb hK hP 1 0 rfl rfl g_3 dX10_exchange_17 ?_
  obtain ⟨g_4, h⟩ := gd_ok h
  obtain ⟨t_order_5, et_order_5, h⟩ := pl_ok h
  refine st_i (D := G.1) (wn := [(q_t, .inr (9, [.ref q_t_z, .ref q_t_old, .ref q_t_past, .int t_states, .ref q_t_kept, .int t_isKept, .ref q_t_text, .int t_length, .ref q_t_order, .ref q_t_told, .int t_spot, .int t_toldRows, .ref q_t_rowsTaken, .ref q_t_columnsTaken, .ref q_t_ways, .ref q_t_scaled, .ref q_t_rowFactors, .ref q_t_columnFactors, .ref q_t_rest, .ref q_t_diagonals, .ref q_t_weights])), (q_t_order, .inl (G.2 0, 7, .inl t_order_5))]) hx hb hK hP hD hS 1 0 rfl rfl g_4 dX10_exchange_18 et_order_5 rfl (fun H locs hP hD hS => ?_)
  refine lv_aload_n hx hb dX10_exchange_19 rfl (lv_at hl 1 rfl) ?_
  refine va_get (D := G.1) (ci := 9) (v := .ref q_t_order) (C := RX10) (T := TX10) (N := 21) hx hb hts wi_X10_exchange_X10 hown hK hP 0 rfl rfl 8 (by decide) (hts _ wd_X10_exchange_1) (fun _ h9 => h9) rfl dX10_exchange_20 ?_
  refine lv_iload_n hx hb dX10_exchange_23 rfl (lv_at hl 3 rfl) ?_
  refine lv_iload_n hx hb dX10_exchange_24 rfl (lv_at hl 0 rfl) ?_
  obtain ⟨g_6, h⟩ := gd_ok h
  obtain ⟨t_order_7, et_order_7, h⟩ := pl_ok h
  refine st_i (D := G.1) (wn := [(q_t, .inr (9, [.ref q_t_z, .ref q_t_old, .ref q_t_past, .int t_states, .ref q_t_kept, .int t_isKept, .ref q_t_text, .int t_length, .ref q_t_order, .ref q_t_told, .int t_spot, .int t_toldRows, .ref q_t_rowsTaken, .ref q_t_columnsTaken, .ref q_t_ways, .ref q_t_scaled, .ref q_t_rowFactors, .ref q_t_columnFactors, .ref q_t_rest, .ref q_t_diagonals, .ref q_t_weights])), (q_t_order, .inl (G.2 0, 7, .inl t_order_7))]) hx hb hK hP hD hS 1 0 rfl rfl g_6 dX10_exchange_25 et_order_7 rfl (fun H locs hP hD hS => ?_)
  obtain rfl := sm1 h
  exact KR H locs ls 26 dX10_exchange_26 hP hD hS
set_option maxHeartbeats 4000000 in
set_option maxRecDepth 100000 in
theorem c_X10_exchange (l : Launch) (G : GT) (q_t q_t_z q_t_old q_t_past q_t_kept q_t_text q_t_order q_t_told q_t_rowsTaken q_t_columnsTaken q_t_ways q_t_scaled q_t_rowFactors q_t_columnFactors q_t_rest q_t_diagonals q_t_weights : Nat) (sz : Nat) (t_states : Int32) (t_isKept : Int32) (t_length : Int32) (t_spot : Int32) (t_toldRows : Int32) (t_order : Nat → Int32) (a1 : Int32) (a2 : Int32) (o_t_order : Nat → Int32) (h : f_X10_exchange t_order a1 a2 = some o_t_order) : Met l yX10_exchange wsX10_exchange ({ frames := 0, cells := 0, slots := 0, locals := 0 } : Room) (va_Pc [.ref q_t, .int a1, .int a2] (pcW G [(q_t, .inr (9, [.ref q_t_z, .ref q_t_old, .ref q_t_past, .int t_states, .ref q_t_kept, .int t_isKept, .ref q_t_text, .int t_length, .ref q_t_order, .ref q_t_told, .int t_spot, .int t_toldRows, .ref q_t_rowsTaken, .ref q_t_columnsTaken, .ref q_t_ways, .ref q_t_scaled, .ref q_t_rowFactors, .ref q_t_columnFactors, .ref q_t_rest, .ref q_t_diagonals, .ref q_t_weights])), (q_t_order, .inl (G.2 0, 7, .inl t_order))] sz)) (va_Qv (fun (_ : Unit) => True) (fun _ t => atW G (va_A [(q_t, .inr (9, [.ref q_t_z, .ref q_t_old, .ref q_t_past, .int t_states, .ref q_t_kept, .int t_isKept, .ref q_t_text, .int t_length, .ref q_t_order, .ref q_t_told, .int t_spot, .int t_toldRows, .ref q_t_rowsTaken, .ref q_t_columnsTaken, .ref q_t_ways, .ref q_t_scaled, .ref q_t_rowFactors, .ref q_t_columnFactors, .ref q_t_rest, .ref q_t_diagonals, .ref q_t_weights])), (q_t_order, .inl (G.2 0, 7, .inl t_order))] sz) [(q_t, .inr (9, [.ref q_t_z, .ref q_t_old, .ref q_t_past, .int t_states, .ref q_t_kept, .int t_isKept, .ref q_t_text, .int t_length, .ref q_t_order, .ref q_t_told, .int t_spot, .int t_toldRows, .ref q_t_rowsTaken, .ref q_t_columnsTaken, .ref q_t_ways, .ref q_t_scaled, .ref q_t_rowFactors, .ref q_t_columnFactors, .ref q_t_rest, .ref q_t_diagonals, .ref q_t_weights])), (q_t_order, .inl (G.2 0, 7, .inl o_t_order))] t) (va_A [(q_t, .inr (9, [.ref q_t_z, .ref q_t_old, .ref q_t_past, .int t_states, .ref q_t_kept, .int t_isKept, .ref q_t_text, .int t_length, .ref q_t_order, .ref q_t_told, .int t_spot, .int t_toldRows, .ref q_t_rowsTaken, .ref q_t_columnsTaken, .ref q_t_ways, .ref q_t_scaled, .ref q_t_rowFactors, .ref q_t_columnFactors, .ref q_t_rest, .ref q_t_diagonals, .ref q_t_weights])), (q_t_order, .inl (G.2 0, 7, .inl t_order))] sz)) 0 0 (va_A [(q_t, .inr (9, [.ref q_t_z, .ref q_t_old, .ref q_t_past, .int t_states, .ref q_t_kept, .int t_isKept, .ref q_t_text, .int t_length, .ref q_t_order, .ref q_t_told, .int t_spot, .int t_toldRows, .ref q_t_rowsTaken, .ref q_t_columnsTaken, .ref q_t_ways, .ref q_t_scaled, .ref q_t_rowFactors, .ref q_t_columnFactors, .ref q_t_rest, .ref q_t_diagonals, .ref q_t_weights])), (q_t_order, .inl (G.2 0, 7, .inl t_order))] sz) := by
  refine Met.ofW (cc := cX10_exchange) (maxL := 4) (ret := none) (by decide) rfl ?_
  intro p e s m args below meth c s₁ B hml hv
  obtain ⟨rfl, hsz, hP, hK, hD0⟩ := hv
  subst hsz
  have hD := hD0.self (sz := s.heap.size)
  generalize hAe : va_A [(q_t, .inr (9, [.ref q_t_z, .ref q_t_old, .ref q_t_past, .int t_states, .ref q_t_kept, .int t_isKept, .ref q_t_text, .int t_length, .ref q_t_order, .ref q_t_told, .int t_spot, .int t_toldRows, .ref q_t_rowsTaken, .ref q_t_columnsTaken, .ref q_t_ways, .ref q_t_scaled, .ref q_t_rowFactors, .ref q_t_columnFactors, .ref q_t_rest, .ref q_t_diagonals, .ref q_t_weights])), (q_t_order, .inl (G.2 0, 7, .inl t_order))] s.heap.size = A at hD ⊢
  have hA : ∀ q : Nat, s.heap.size ≤ q → A q := fun q h => by rw [← hAe]; exact Or.inr h
  have hl := lv_entry ([.ref q_t, .int a1, .int a2]) (n := 4) (Nat.le_of_ble_eq_true rfl)
  rw [lg_entry_eq]
  refine k_X10_exchange ⟨B.exec, B.bytes, hml, findClass_of_methodNamed B.named, atoms_spec (ws := wsX10_exchange) B.pre⟩ G hK hA q_t q_t_z q_t_old q_t_past q_t_kept q_t_text q_t_order q_t_told q_t_rowsTaken q_t_columnsTaken q_t_ways q_t_scaled q_t_rowFactors q_t_columnFactors q_t_rest q_t_diagonals q_t_weights _ _ _ _ _ _ _ _ _ h ?_ _ _ _ hP hD va_S.rf hl
  intro H locs ls pc hd hP hD hS
  exact W.vret B.exec B.bytes B.returns (fun t ht hW => ⟨⟨(), rfl, trivial, by rw [ht]; exact hP, hD⟩, hS.F ht⟩) hS.2.2 hd B.notSynchronized
set_option maxRecDepth 20000 in
theorem wd_X10_nextOrder_1 : Cond.fieldLink RX10 25 "PermanentDeskModel" "order" "[I" ∈ wsX10_nextOrder := List.mem_of_getElem? (i := 1) (by decide +kernel)
set_option maxRecDepth 20000 in
theorem wi_X10_nextOrder_X10 : ∀ w ∈ u_ws RX10 TX10 21, w ∈ wsX10_nextOrder := by decide +kernel
def f_X10_nextOrder_L1 (t_order : Nat → Int32) : Int32 → Option (Int32 ⊕ Int32)
  | x2 =>
    if x2 < 0 then
      some (.inr x2)
    else
      gd (okI x2 7) (
      gd (okI (x2 + (1 : Int32)) 7) (
      if (t_order x2.toNatClampNeg) ≤ (t_order (x2 + (1 : Int32)).toNatClampNeg) then
        some (.inr x2)
      else
        pl ((x2 + (-1 : Int32)) : Int32) (fun x2_6 =>
        some (.inl x2_6))))
def f_X10_nextOrder_L2 (x2 : Int32) (t_order : Nat → Int32) : Int32 → Option (Int32 ⊕ Int32)
  | x3 =>
    gd (okI x3 7) (
    gd (okI x2 7) (
    if (t_order x2.toNatClampNeg) ≤ (t_order x3.toNatClampNeg) then
      some (.inr x3)
    else
      pl ((x3 + (-1 : Int32)) : Int32) (fun x3_15 =>
      some (.inl x3_15))))
def f_X10_nextOrder_L3  : (Int32 × Int32 × (Nat → Int32)) → Option ((Int32 × Int32 × (Nat → Int32)) ⊕ (Nat → Int32))
  | (x4, x5, t_order) =>
    if x5 ≤ x4 then
      some (.inr t_order)
    else
      (f_X10_exchange t_order x4 x5).bind (fun t_order_24 =>
      pl ((x4 + (1 : Int32)) : Int32) (fun x4_26 =>
      pl ((x5 + (-1 : Int32)) : Int32) (fun x5_27 =>
      some (.inl (x4_26, x5_27, t_order_24)))))
def f_X10_nextOrder (t_order : Nat → Int32) (a1 : Int32) : Option (Int32 × (Nat → Int32)) :=
  pl ((a1 - (2 : Int32)) : Int32) (fun x2_1 =>
  (lpN (f_X10_nextOrder_L1 t_order) FU x2_1).bind (fun x2_7 =>
  if 0 ≤ x2_7 then
    pl ((a1 - (1 : Int32)) : Int32) (fun x3_11 =>
    (lpN (f_X10_nextOrder_L2 x2_7 t_order) FU x3_11).bind (fun x3_16 =>
    (f_X10_exchange t_order x2_7 x3_16).bind (fun t_order_19 =>
    pl ((x2_7 + (1 : Int32)) : Int32) (fun x4_21 =>
    pl ((a1 - (1 : Int32)) : Int32) (fun x5_22 =>
    (lpN (f_X10_nextOrder_L3) FU (x4_21, x5_22, t_order_19)).bind (fun t_order_28 =>
    some ((1 : Int32), t_order_28)))))))
  else
    some ((0 : Int32), t_order)))
set_option maxHeartbeats 4000000 in
set_option maxRecDepth 100000 in
theorem l_X10_nextOrder_1 {p : Program} {l : Launch} {e : Env} {s : State} {m : MethodId} {args : Array Value} {below : List Frame} {meth : Method} {c : Code} {Q : State → Prop} {A0 : Nat → Prop} {H0 : Heap} (C : CallFix p m c cX10_nextOrder 6 s args wsX10_nextOrder RX10) (G : GT) (hK : gK G s) (hA : ∀ q : Nat, H0.size ≤ q → A0 q) (q_t q_t_z q_t_old q_t_past q_t_kept q_t_text q_t_order q_t_told q_t_rowsTaken q_t_columnsTaken q_t_ways q_t_scaled q_t_rowFactors q_t_columnFactors q_t_rest q_t_diagonals q_t_weights : Nat) (x1 : Int32) (t_states : Int32) (t_isKept : Int32) (t_length : Int32) (t_spot : Int32) (t_toldRows : Int32) (t_order : Nat → Int32) (E_x2 : Int32) (K : ∀ (H : Heap) (locs : List Loc) (ls : Array Slot), va_P G.1 vwCl [(q_t, .inr (9, [.ref q_t_z, .ref q_t_old, .ref q_t_past, .int t_states, .ref q_t_kept, .int t_isKept, .ref q_t_text, .int t_length, .ref q_t_order, .ref q_t_told, .int t_spot, .int t_toldRows, .ref q_t_rowsTaken, .ref q_t_columnsTaken, .ref q_t_ways, .ref q_t_scaled, .ref q_t_rowFactors, .ref q_t_columnFactors, .ref q_t_rest, .ref q_t_diagonals, .ref q_t_weights])), (q_t_order, .inl (G.2 0, 7, .inl t_order))] H → va_D A0 [(q_t, .inr (9, [.ref q_t_z, .ref q_t_old, .ref q_t_past, .int t_states, .ref q_t_kept, .int t_isKept, .ref q_t_text, .int t_length, .ref q_t_order, .ref q_t_told, .int t_spot, .int t_toldRows, .ref q_t_rowsTaken, .ref q_t_columnsTaken, .ref q_t_ways, .ref q_t_scaled, .ref q_t_rowFactors, .ref q_t_columnFactors, .ref q_t_rest, .ref q_t_diagonals, .ref q_t_weights])), (q_t_order, .inl (G.2 0, 7, .inl t_order))] → va_S A0 H0 H locs → lv_has ls 6 [(0, .ref q_t), (1, .int x1), (2, .int E_x2)] → W p l e ({ frames := 1, cells := 0, slots := 0, locals := 23 } : Room) s m args below meth c H locs 0 0 Q (F0 m 31 ls [])) : ∀ (n : Nat) (x2 : Int32), lpN (f_X10_nextOrder_L1 t_order) n x2 = some E_x2 → ∀ (H : Heap) (locs : List Loc) (ls : Array Slot), va_P G.1 vwCl [(q_t, .inr (9, [.ref q_t_z, .ref q_t_old, .ref q_t_past, .int t_states, .ref q_t_kept, .int t_isKept, .ref q_t_text, .int t_length, .ref q_t_order, .ref q_t_told, .int t_spot, .int t_toldRows, .ref q_t_rowsTaken, .ref q_t_columnsTaken, .ref q_t_ways, .ref q_t_scaled, .ref q_t_rowFactors, .ref q_t_columnFactors, .ref q_t_rest, .ref q_t_diagonals, .ref q_t_weights])), (q_t_order, .inl (G.2 0, 7, .inl t_order))] H → va_D A0 [(q_t, .inr (9, [.ref q_t_z, .ref q_t_old, .ref q_t_past, .int t_states, .ref q_t_kept, .int t_isKept, .ref q_t_text, .int t_length, .ref q_t_order, .ref q_t_told, .int t_spot, .int t_toldRows, .ref q_t_rowsTaken, .ref q_t_columnsTaken, .ref q_t_ways, .ref q_t_scaled, .ref q_t_rowFactors, .ref q_t_columnFactors, .ref q_t_rest, .ref q_t_diagonals, .ref q_t_weights])), (q_t_order, .inl (G.2 0, 7, .inl t_order))] → va_S A0 H0 H locs → lv_has ls 6 [(0, .ref q_t), (1, .int x1), (2, .int x2)] → W p l e ({ frames := 1, cells := 0, slots := 0, locals := 23 } : Room) s m args below meth c H locs 0 0 Q (F0 m 4 ls []) := by
  obtain ⟨hx, hb, hml, hown, hts⟩ := C
  intro n
  induction n with
  | zero => intro x2 h; exact absurd h (fun h => lp_0 h)
  | succ n ih =>
    intro x2 h H locs ls hP hD hS hl
    obtain ⟨y, h, hk⟩ := lp_s h
    rw [f_X10_nextOrder_L1] at h
    refine lv_iload_n hx hb dX10_nextOrder_4 rfl (lv_at hl 2 rfl) ?_
    refine lv_if_lt (tgt := 31) hx hb dX10_nextOrder_5 (by decide) (fun c_2 => ?_) (fun c_2 => ?_)
    · replace h := it_t h c_2
      obtain rfl := sm1 h
      obtain rfl := sm1 hk
      exact K H locs ls hP hD hS (lv_sub hl [0, 1, 2] rfl)
    · replace h := it_f h c_2
      refine lv_aload_n hx hb dX10_nextOrder_8 rfl (lv_at hl 0 rfl) ?_
      refine va_get (D := G.1) (ci := 9) (v := .ref q_t_order) (C := RX10) (T := TX10) (N := 21) hx hb hts wi_X10_nextOrder_X10 hown hK hP 0 rfl rfl 8 (by decide) (hts _ wd_X10_nextOrder_1) (fun _ h9 => h9) rfl dX10_nextOrder_9 ?_
      refine lv_iload_n hx hb dX10_nextOrder_12 rfl (lv_at hl 2 rfl) ?_
      obtain ⟨g_3, h⟩ := gd_ok h
      refine va_iald (D := G.1) hx hb hK hP 1 0 rfl rfl g_3 dX10_nextOrder_13 ?_
      refine lv_aload_n hx hb dX10_nextOrder_14 rfl (lv_at hl 0 rfl) ?_
      refine va_get (D := G.1) (ci := 9) (v := .ref q_t_order) (C := RX10) (T := TX10) (N := 21) hx hb hts wi_X10_nextOrder_X10 hown hK hP 0 rfl rfl 8 (by decide) (hts _ wd_X10_nextOrder_1) (fun _ h9 => h9) rfl dX10_nextOrder_15 ?_
      refine lv_iload_n hx hb dX10_nextOrder_18 rfl (lv_at hl 2 rfl) ?_
      refine lv_iconst (v := 1) hx hb dX10_nextOrder_19 (by decide) ?_
      refine lv_iadd hx hb dX10_nextOrder_20 ?_
      obtain ⟨g_4, h⟩ := gd_ok h
      refine va_iald (D := G.1) hx hb hK hP 1 0 rfl rfl g_4 dX10_nextOrder_21 ?_
      refine lv_icmp_le (tgt := 31) hx hb dX10_nextOrder_22 (by decide) (fun c_5 => ?_) (fun c_5 => ?_)
      · replace h := it_t h c_5
        obtain rfl := sm1 h
        obtain rfl := sm1 hk
        exact K H locs ls hP hD hS (lv_sub hl [0, 1, 2] rfl)
      · replace h := it_f h c_5
        obtain ⟨x2_6, ex2_6, h⟩ := pl_ok h
        refine lv_iinc (v := x2_6) (lv' := [(2, .int x2_6), (0, .ref q_t), (1, .int x1)]) hx hb dX10_nextOrder_25 hl (k := 2) rfl (by rw [ex2_6]; rfl) (by decide) rfl (fun ls hl => ?_)
        refine lv_goto (tgt := 4) hx hb dX10_nextOrder_28 (by decide) ?_
        obtain rfl := sm1 h
        exact ih x2_6 hk H locs ls hP hD hS (lv_sub hl [1, 2, 0] rfl)
set_option maxHeartbeats 4000000 in
set_option maxRecDepth 100000 in
theorem l_X10_nextOrder_2 {p : Program} {l : Launch} {e : Env} {s : State} {m : MethodId} {args : Array Value} {below : List Frame} {meth : Method} {c : Code} {Q : State → Prop} {A0 : Nat → Prop} {H0 : Heap} (C : CallFix p m c cX10_nextOrder 6 s args wsX10_nextOrder RX10) (G : GT) (hK : gK G s) (hA : ∀ q : Nat, H0.size ≤ q → A0 q) (q_t q_t_z q_t_old q_t_past q_t_kept q_t_text q_t_order q_t_told q_t_rowsTaken q_t_columnsTaken q_t_ways q_t_scaled q_t_rowFactors q_t_columnFactors q_t_rest q_t_diagonals q_t_weights : Nat) (x1 : Int32) (x2 : Int32) (t_states : Int32) (t_isKept : Int32) (t_length : Int32) (t_spot : Int32) (t_toldRows : Int32) (t_order : Nat → Int32) (E_x3 : Int32) (K : ∀ (H : Heap) (locs : List Loc) (ls : Array Slot), va_P G.1 vwCl [(q_t, .inr (9, [.ref q_t_z, .ref q_t_old, .ref q_t_past, .int t_states, .ref q_t_kept, .int t_isKept, .ref q_t_text, .int t_length, .ref q_t_order, .ref q_t_told, .int t_spot, .int t_toldRows, .ref q_t_rowsTaken, .ref q_t_columnsTaken, .ref q_t_ways, .ref q_t_scaled, .ref q_t_rowFactors, .ref q_t_columnFactors, .ref q_t_rest, .ref q_t_diagonals, .ref q_t_weights])), (q_t_order, .inl (G.2 0, 7, .inl t_order))] H → va_D A0 [(q_t, .inr (9, [.ref q_t_z, .ref q_t_old, .ref q_t_past, .int t_states, .ref q_t_kept, .int t_isKept, .ref q_t_text, .int t_length, .ref q_t_order, .ref q_t_told, .int t_spot, .int t_toldRows, .ref q_t_rowsTaken, .ref q_t_columnsTaken, .ref q_t_ways, .ref q_t_scaled, .ref q_t_rowFactors, .ref q_t_columnFactors, .ref q_t_rest, .ref q_t_diagonals, .ref q_t_weights])), (q_t_order, .inl (G.2 0, 7, .inl t_order))] → va_S A0 H0 H locs → lv_has ls 6 [(0, .ref q_t), (1, .int x1), (2, .int x2), (3, .int E_x3)] → W p l e ({ frames := 1, cells := 0, slots := 0, locals := 23 } : Room) s m args below meth c H locs 0 0 Q (F0 m 62 ls [])) : ∀ (n : Nat) (x3 : Int32), lpN (f_X10_nextOrder_L2 x2 t_order) n x3 = some E_x3 → ∀ (H : Heap) (locs : List Loc) (ls : Array Slot), va_P G.1 vwCl [(q_t, .inr (9, [.ref q_t_z, .ref q_t_old, .ref q_t_past, .int t_states, .ref q_t_kept, .int t_isKept, .ref q_t_text, .int t_length, .ref q_t_order, .ref q_t_told, .int t_spot, .int t_toldRows, .ref q_t_rowsTaken, .ref q_t_columnsTaken, .ref q_t_ways, .ref q_t_scaled, .ref q_t_rowFactors, .ref q_t_columnFactors, .ref q_t_rest, .ref q_t_diagonals, .ref q_t_weights])), (q_t_order, .inl (G.2 0, 7, .inl t_order))] H → va_D A0 [(q_t, .inr (9, [.ref q_t_z, .ref q_t_old, .ref q_t_past, .int t_states, .ref q_t_kept, .int t_isKept, .ref q_t_text, .int t_length, .ref q_t_order, .ref q_t_told, .int t_spot, .int t_toldRows, .ref q_t_rowsTaken, .ref q_t_columnsTaken, .ref q_t_ways, .ref q_t_scaled, .ref q_t_rowFactors, .ref q_t_columnFactors, .ref q_t_rest, .ref q_t_diagonals, .ref q_t_weights])), (q_t_order, .inl (G.2 0, 7, .inl t_order))] → va_S A0 H0 H locs → lv_has ls 6 [(0, .ref q_t), (1, .int x1), (2, .int x2), (3, .int x3)] → W p l e ({ frames := 1, cells := 0, slots := 0, locals := 23 } : Room) s m args below meth c H locs 0 0 Q (F0 m 41 ls []) := by
  obtain ⟨hx, hb, hml, hown, hts⟩ := C
  intro n
  induction n with
  | zero => intro x3 h; exact absurd h (fun h => lp_0 h)
  | succ n ih =>
    intro x3 h H locs ls hP hD hS hl
    obtain ⟨y, h, hk⟩ := lp_s h
    rw [f_X10_nextOrder_L2] at h
    refine lv_aload_n hx hb dX10_nextOrder_41 rfl (lv_at hl 0 rfl) ?_
    refine va_get (D := G.1) (ci := 9) (v := .ref q_t_order) (C := RX10) (T := TX10) (N := 21) hx hb hts wi_X10_nextOrder_X10 hown hK hP 0 rfl rfl 8 (by decide) (hts _ wd_X10_nextOrder_1) (fun _ h9 => h9) rfl dX10_nextOrder_42 ?_
    refine lv_iload_n hx hb dX10_nextOrder_45 rfl (lv_at hl 3 rfl) ?_
    obtain ⟨g_12, h⟩ := gd_ok h
    refine va_iald (D := G.1) hx hb hK hP 1 0 rfl rfl g_12 dX10_nextOrder_46 ?_
    refine lv_aload_n hx hb dX10_nextOrder_47 rfl (lv_at hl 0 rfl) ?_
    refine va_get (D := G.1) (ci := 9) (v := .ref q_t_order) (C := RX10) (T := TX10) (N := 21) hx hb hts wi_X10_nextOrder_X10 hown hK hP 0 rfl rfl 8 (by decide) (hts _ wd_X10_nextOrder_1) (fun _ h9 => h9) rfl dX10_nextOrder_48 ?_
    refine lv_iload_n hx hb dX10_nextOrder_51 rfl (lv_at hl 2 rfl) ?_
    obtain ⟨g_13, h⟩ := gd_ok h
    refine va_iald (D := G.1) hx hb hK hP 1 0 rfl rfl g_13 dX10_nextOrder_52 ?_
    refine lv_icmp_ge (tgt := 62) hx hb dX10_nextOrder_53 (by decide) (fun c_14 => ?_) (fun c_14 => ?_)
    · replace h := it_t h c_14
      obtain rfl := sm1 h
      obtain rfl := sm1 hk
      exact K H locs ls hP hD hS (lv_sub hl [0, 1, 2, 3] rfl)
    · replace h := it_f h c_14
      obtain ⟨x3_15, ex3_15, h⟩ := pl_ok h
      refine lv_iinc (v := x3_15) (lv' := [(3, .int x3_15), (0, .ref q_t), (1, .int x1), (2, .int x2)]) hx hb dX10_nextOrder_56 hl (k := 3) rfl (by rw [ex3_15]; rfl) (by decide) rfl (fun ls hl => ?_)
      refine lv_goto (tgt := 41) hx hb dX10_nextOrder_59 (by decide) ?_
      obtain rfl := sm1 h
      exact ih x3_15 hk H locs ls hP hD hS (lv_sub hl [1, 2, 3, 0] rfl)
set_option maxHeartbeats 4000000 in
set_option maxRecDepth 100000 in
theorem l_X10_nextOrder_3 {p : Program} {l : Launch} {e : Env} {s : State} {m : MethodId} {args : Array Value} {below : List Frame} {meth : Method} {c : Code} {Q : State → Prop} {A0 : Nat → Prop} {H0 : Heap} (C : CallFix p m c cX10_nextOrder 6 s args wsX10_nextOrder RX10) (G : GT) (hK : gK G s) (hA : ∀ q : Nat, H0.size ≤ q → A0 q) (q_t q_t_z q_t_old q_t_past q_t_kept q_t_text q_t_order q_t_told q_t_rowsTaken q_t_columnsTaken q_t_ways q_t_scaled q_t_rowFactors q_t_columnFactors q_t_rest q_t_diagonals q_t_weights : Nat) (t_states : Int32) (t_isKept : Int32) (t_length : Int32) (t_spot : Int32) (t_toldRows : Int32) (E_t_order : Nat → Int32) (K : ∀ (H : Heap) (locs : List Loc) (ls : Array Slot), va_P G.1 vwCl [(q_t, .inr (9, [.ref q_t_z, .ref q_t_old, .ref q_t_past, .int t_states, .ref q_t_kept, .int t_isKept, .ref q_t_text, .int t_length, .ref q_t_order, .ref q_t_told, .int t_spot, .int t_toldRows, .ref q_t_rowsTaken, .ref q_t_columnsTaken, .ref q_t_ways, .ref q_t_scaled, .ref q_t_rowFactors, .ref q_t_columnFactors, .ref q_t_rest, .ref q_t_diagonals, .ref q_t_weights])), (q_t_order, .inl (G.2 0, 7, .inl E_t_order))] H → va_D A0 [(q_t, .inr (9, [.ref q_t_z, .ref q_t_old, .ref q_t_past, .int t_states, .ref q_t_kept, .int t_isKept, .ref q_t_text, .int t_length, .ref q_t_order, .ref q_t_told, .int t_spot, .int t_toldRows, .ref q_t_rowsTaken, .ref q_t_columnsTaken, .ref q_t_ways, .ref q_t_scaled, .ref q_t_rowFactors, .ref q_t_columnFactors, .ref q_t_rest, .ref q_t_diagonals, .ref q_t_weights])), (q_t_order, .inl (G.2 0, 7, .inl E_t_order))] → va_S A0 H0 H locs → lv_has ls 6 [] → W p l e ({ frames := 1, cells := 0, slots := 0, locals := 23 } : Room) s m args below meth c H locs 0 0 Q (F0 m 102 ls [])) : ∀ (n : Nat) (x4 : Int32) (x5 : Int32) (t_order : Nat → Int32), lpN (f_X10_nextOrder_L3) n (x4, x5, t_order) = some E_t_order → ∀ (H : Heap) (locs : List Loc) (ls : Array Slot), va_P G.1 vwCl [(q_t, .inr (9, [.ref q_t_z, .ref q_t_old, .ref q_t_past, .int t_states, .ref q_t_kept, .int t_isKept, .ref q_t_text, .int t_length, .ref q_t_order, .ref q_t_told, .int t_spot, .int t_toldRows, .ref q_t_rowsTaken, .ref q_t_columnsTaken, .ref q_t_ways, .ref q_t_scaled, .ref q_t_rowFactors, .ref q_t_columnFactors, .ref q_t_rest, .ref q_t_diagonals, .ref q_t_weights])), (q_t_order, .inl (G.2 0, 7, .inl t_order))] H → va_D A0 [(q_t, .inr (9, [.ref q_t_z, .ref q_t_old, .ref q_t_past, .int t_states, .ref q_t_kept, .int t_isKept, .ref q_t_text, .int t_length, .ref q_t_order, .ref q_t_told, .int t_spot, .int t_toldRows, .ref q_t_rowsTaken, .ref q_t_columnsTaken, .ref q_t_ways, .ref q_t_scaled, .ref q_t_rowFactors, .ref q_t_columnFactors, .ref q_t_rest, .ref q_t_diagonals, .ref q_t_weights])), (q_t_order, .inl (G.2 0, 7, .inl t_order))] → va_S A0 H0 H locs → lv_has ls 6 [(0, .ref q_t), (4, .int x4), (5, .int x5)] → W p l e ({ frames := 1, cells := 0, slots := 0, locals := 23 } : Room) s m args below meth c H locs 0 0 Q (F0 m 78 ls []) := by
  obtain ⟨hx, hb, hml, hown, hts⟩ := C
  intro n
  induction n with
  | zero => intro x4 x5 t_order h; exact absurd h (fun h => lp_0 h)
  | succ n ih =>
    intro x4 x5 t_order h H locs ls hP hD hS hl
    obtain ⟨y, h, hk⟩ := lp_s h
    rw [f_X10_nextOrder_L3] at h
    refine lv_iload hx hb dX10_nextOrder_78 (lv_at hl 1 rfl) ?_
    refine lv_iload hx hb dX10_nextOrder_80 (lv_at hl 2 rfl) ?_
    refine lv_icmp_ge (tgt := 102) hx hb dX10_nextOrder_82 (by decide) (fun c_23 => ?_) (fun c_23 => ?_)
    · replace h := it_t h c_23
      obtain rfl := sm1 h
      obtain rfl := sm1 hk
      exact K H locs ls hP hD hS (lv_sub hl [] rfl)
    · replace h := it_f h c_23
      refine lv_aload_n hx hb dX10_nextOrder_85 rfl (lv_at hl 0 rfl) ?_
      refine lv_iload hx hb dX10_nextOrder_86 (lv_at hl 1 rfl) ?_
      refine lv_iload hx hb dX10_nextOrder_88 (lv_at hl 2 rfl) ?_
      obtain ⟨t_order_24, hf_25, h⟩ := bd_ok h
      refine ck_Vv (rest := []) (wn := [(q_t, .inr (9, [.ref q_t_z, .ref q_t_old, .ref q_t_past, .int t_states, .ref q_t_kept, .int t_isKept, .ref q_t_text, .int t_length, .ref q_t_order, .ref q_t_told, .int t_spot, .int t_toldRows, .ref q_t_rowsTaken, .ref q_t_columnsTaken, .ref q_t_ways, .ref q_t_scaled, .ref q_t_rowFactors, .ref q_t_columnFactors, .ref q_t_rest, .ref q_t_diagonals, .ref q_t_weights])), (q_t_order, .inl (G.2 0, 7, .inl t_order_24))]) ⟨hx, hb, hml, hown, hts⟩ hK hP hD hS hA [0, 1] [] [0, 1] (c_X10_exchange l G q_t q_t_z q_t_old q_t_past q_t_kept q_t_text q_t_order q_t_told q_t_rowsTaken q_t_columnsTaken q_t_ways q_t_scaled q_t_rowFactors q_t_columnFactors q_t_rest q_t_diagonals q_t_weights _ t_states t_isKept t_length t_spot t_toldRows t_order x4 x5 _ hf_25) (cwV 2 hts gX10_nextOrder_X10_exchange rfl rfl rfl (by decide +kernel) ⟨Nat.le_of_ble_eq_true rfl, Nat.le_of_ble_eq_true rfl⟩) rfl rfl rfl rfl rfl rfl (by decide) rfl rfl rfl hl.1 rfl (Nat.le_of_ble_eq_true rfl) dX10_nextOrder_90 ⟨Nat.zero_le _, Nat.zero_le _⟩ (fun H locs hP hD hS => ?_)
      obtain ⟨x4_26, ex4_26, h⟩ := pl_ok h
      refine lv_iinc (v := x4_26) (lv' := [(4, .int x4_26), (0, .ref q_t), (5, .int x5)]) hx hb dX10_nextOrder_93 hl (k := 1) rfl (by rw [ex4_26]; rfl) (by decide) rfl (fun ls hl => ?_)
      obtain ⟨x5_27, ex5_27, h⟩ := pl_ok h
      refine lv_iinc (v := x5_27) (lv' := [(5, .int x5_27), (4, .int x4_26), (0, .ref q_t)]) hx hb dX10_nextOrder_96 hl (k := 2) rfl (by rw [ex5_27]; rfl) (by decide) rfl (fun ls hl => ?_)
      refine lv_goto (tgt := 78) hx hb dX10_nextOrder_99 (by decide) ?_
      obtain rfl := sm1 h
      exact ih x4_26 x5_27 t_order_24 hk H locs ls hP hD hS (lv_sub hl [2, 1, 0] rfl)
set_option maxHeartbeats 4000000 in
set_option maxRecDepth 100000 in
theorem k_X10_nextOrder {p : Program} {l : Launch} {e : Env} {s : State} {m : MethodId} {args : Array Value} {below : List Frame} {meth : Method} {c : Code} {Q : State → Prop} {A0 : Nat → Prop} {H0 : Heap} (C : CallFix p m c cX10_nextOrder 6 s args wsX10_nextOrder RX10) (G : GT) (hK : gK G s) (hA : ∀ q : Nat, H0.size ≤ q → A0 q) (q_t q_t_z q_t_old q_t_past q_t_kept q_t_text q_t_order q_t_told q_t_rowsTaken q_t_columnsTaken q_t_ways q_t_scaled q_t_rowFactors q_t_columnFactors q_t_rest q_t_diagonals q_t_weights : Nat) (t_states : Int32) (t_isKept : Int32) (t_length : Int32) (t_spot : Int32) (t_toldRows : Int32) (t_order : Nat → Int32) (a1 : Int32) (r : Int32) (o_t_order : Nat → Int32) (h : f_X10_nextOrder t_order a1 = some (r, o_t_order)) (KR : ∀ (H : Heap) (locs : List Loc) (ls : Array Slot) (pc : Nat), decode cX10_nextOrder pc = .ok (.ireturn, 1) → (r = 0 ∨ r = 1) → va_P G.1 vwCl [(q_t, .inr (9, [.ref q_t_z, .ref q_t_old, .ref q_t_past, .int t_states, .ref q_t_kept, .int t_isKept, .ref q_t_text, .int t_length, .ref q_t_order, .ref q_t_told, .int t_spot, .int t_toldRows, .ref q_t_rowsTaken, .ref q_t_columnsTaken, .ref q_t_ways, .ref q_t_scaled, .ref q_t_rowFactors, .ref q_t_columnFactors, .ref q_t_rest, .ref q_t_diagonals, .ref q_t_weights])), (q_t_order, .inl (G.2 0, 7, .inl o_t_order))] H → va_D A0 [(q_t, .inr (9, [.ref q_t_z, .ref q_t_old, .ref q_t_past, .int t_states, .ref q_t_kept, .int t_isKept, .ref q_t_text, .int t_length, .ref q_t_order, .ref q_t_told, .int t_spot, .int t_toldRows, .ref q_t_rowsTaken, .ref q_t_columnsTaken, .ref q_t_ways, .ref q_t_scaled, .ref q_t_rowFactors, .ref q_t_columnFactors, .ref q_t_rest, .ref q_t_diagonals, .ref q_t_weights])), (q_t_order, .inl (G.2 0, 7, .inl o_t_order))] → va_S A0 H0 H locs → W p l e ({ frames := 1, cells := 0, slots := 0, locals := 23 } : Room) s m args below meth c H locs 0 0 Q (F0 m pc ls [.int r])) : ∀ (H : Heap) (locs : List Loc) (ls : Array Slot), va_P G.1 vwCl [(q_t, .inr (9, [.ref q_t_z, .ref q_t_old, .ref q_t_past, .int t_states, .ref q_t_kept, .int t_isKept, .ref q_t_text, .int t_length, .ref q_t_order, .ref q_t_told, .int t_spot, .int t_toldRows, .ref q_t_rowsTaken, .ref q_t_columnsTaken, .ref q_t_ways, .ref q_t_scaled, .ref q_t_rowFactors, .ref q_t_columnFactors, .ref q_t_rest, .ref q_t_diagonals, .ref q_t_weights])), (q_t_order, .inl (G.2 0, 7, .inl t_order))] H → va_D A0 [(q_t, .inr (9, [.ref q_t_z, .ref q_t_old, .ref q_t_past, .int t_states, .ref q_t_kept, .int t_isKept, .ref q_t_text, .int t_length, .ref q_t_order, .ref q_t_told, .int t_spot, .int t_toldRows, .ref q_t_rowsTaken, .ref q_t_columnsTaken, .ref q_t_ways, .ref q_t_scaled, .ref q_t_rowFactors, .ref q_t_columnFactors, .ref q_t_rest, .ref q_t_diagonals, .ref q_t_weights])), (q_t_order, .inl (G.2 0, 7, .inl t_order))] → va_S A0 H0 H locs → lv_has ls 6 [(0, .ref q_t), (1, .int a1)] → W p l e ({ frames := 1, cells := 0, slots := 0, locals := 23 } : Room) s m args below meth c H locs 0 0 Q (F0 m 0 ls []) := by
  obtain ⟨hx, hb, hml, hown, hts⟩ := C
  intro H locs ls hP hD hS hl
  rw [f_X10_nextOrder] at h
  refine lv_iload_n hx hb dX10_nextOrder_0 rfl (lv_at hl 1 rfl) ?_
  refine lv_iconst (v := 2) hx hb dX10_nextOrder_1 (by decide) ?_
  refine lv_isub hx hb dX10_nextOrder_2 ?_
  refine lv_topi (fun x2_1 ex2_1 => ?_)
  replace h := pl_v h ex2_1
  refine lv_istore_n (lv' := [(2, .int x2_1), (0, .ref q_t), (1, .int a1)]) hx hb dX10_nextOrder_3 rfl hl (by decide) rfl (fun ls hl => ?_)
  obtain ⟨x2_7, hz_9, h⟩ := bd_ok h
  refine l_X10_nextOrder_1 ⟨hx, hb, hml, hown, hts⟩ G hK hA q_t q_t_z q_t_old q_t_past q_t_kept q_t_text q_t_order q_t_told q_t_rowsTaken q_t_columnsTaken q_t_ways q_t_scaled q_t_rowFactors q_t_columnFactors q_t_rest q_t_diagonals q_t_weights a1 t_states t_isKept t_length t_spot t_toldRows t_order x2_7 ?_ FU x2_1 hz_9 H locs ls hP hD hS (lv_sub hl [1, 2, 0] rfl)
  intro H locs ls hP hD hS hl
  refine lv_iload_n hx hb dX10_nextOrder_31 rfl (lv_at hl 2 rfl) ?_
  refine lv_if_ge (tgt := 37) hx hb dX10_nextOrder_32 (by decide) (fun c_10 => ?_) (fun c_10 => ?_)
  · replace h := it_t h c_10
    refine lv_iload_n hx hb dX10_nextOrder_37 rfl (lv_at hl 1 rfl) ?_
    refine lv_iconst (v := 1) hx hb dX10_nextOrder_38 (by decide) ?_
    refine lv_isub hx hb dX10_nextOrder_39 ?_
    refine lv_topi (fun x3_11 ex3_11 => ?_)
    replace h := pl_v h ex3_11
    refine lv_istore_n (lv' := [(3, .int x3_11), (0, .ref q_t), (1, .int a1), (2, .int x2_7)]) hx hb dX10_nextOrder_40 rfl hl (by decide) rfl (fun ls hl => ?_)
    obtain ⟨x3_16, hz_18, h⟩ := bd_ok h
    refine l_X10_nextOrder_2 ⟨hx, hb, hml, hown, hts⟩ G hK hA q_t q_t_z q_t_old q_t_past q_t_kept q_t_text q_t_order q_t_told q_t_rowsTaken q_t_columnsTaken q_t_ways q_t_scaled q_t_rowFactors q_t_columnFactors q_t_rest q_t_diagonals q_t_weights a1 x2_7 t_states t_isKept t_length t_spot t_toldRows t_order x3_16 ?_ FU x3_11 hz_18 H locs ls hP hD hS (lv_sub hl [1, 2, 3, 0] rfl)
    intro H locs ls hP hD hS hl
    refine lv_aload_n hx hb dX10_nextOrder_62 rfl (lv_at hl 0 rfl) ?_
    refine lv_iload_n hx hb dX10_nextOrder_63 rfl (lv_at hl 2 rfl) ?_
    refine lv_iload_n hx hb dX10_nextOrder_64 rfl (lv_at hl 3 rfl) ?_
    obtain ⟨t_order_19, hf_20, h⟩ := bd_ok h
    refine ck_Vv (rest := []) (wn := [(q_t, .inr (9, [.ref q_t_z, .ref q_t_old, .ref q_t_past, .int t_states, .ref q_t_kept, .int t_isKept, .ref q_t_text, .int t_length, .ref q_t_order, .ref q_t_told, .int t_spot, .int t_toldRows, .ref q_t_rowsTaken, .ref q_t_columnsTaken, .ref q_t_ways, .ref q_t_scaled, .ref q_t_rowFactors, .ref q_t_columnFactors, .ref q_t_rest, .ref q_t_diagonals, .ref q_t_weights])), (q_t_order, .inl (G.2 0, 7, .inl t_order_19))]) ⟨hx, hb, hml, hown, hts⟩ hK hP hD hS hA [0, 1] [] [0, 1] (c_X10_exchange l G q_t q_t_z q_t_old q_t_past q_t_kept q_t_text q_t_order q_t_told q_t_rowsTaken q_t_columnsTaken q_t_ways q_t_scaled q_t_rowFactors q_t_columnFactors q_t_rest q_t_diagonals q_t_weights _ t_states t_isKept t_length t_spot t_toldRows t_order x2_7 x3_16 _ hf_20) (cwV 2 hts gX10_nextOrder_X10_exchange rfl rfl rfl (by decide +kernel) ⟨Nat.le_of_ble_eq_true rfl, Nat.le_of_ble_eq_true rfl⟩) rfl rfl rfl rfl rfl rfl (by decide) rfl rfl rfl hl.1 rfl (Nat.le_of_ble_eq_true rfl) dX10_nextOrder_65 ⟨Nat.zero_le _, Nat.zero_le _⟩ (fun H locs hP hD hS => ?_)
    refine lv_iload_n hx hb dX10_nextOrder_68 rfl (lv_at hl 2 rfl) ?_
    refine lv_iconst (v := 1) hx hb dX10_nextOrder_69 (by decide) ?_
    refine lv_iadd hx hb dX10_nextOrder_70 ?_
    refine lv_topi (fun x4_21 ex4_21 => ?_)
    replace h := pl_v h ex4_21
    refine lv_istore (lv' := [(4, .int x4_21), (0, .ref q_t), (1, .int a1), (2, .int x2_7), (3, .int x3_16)]) hx hb dX10_nextOrder_71 hl (by decide) rfl (fun ls hl => ?_)
    refine lv_iload_n hx hb dX10_nextOrder_73 rfl (lv_at hl 2 rfl) ?_
    refine lv_iconst (v := 1) hx hb dX10_nextOrder_74 (by decide) ?_
    refine lv_isub hx hb dX10_nextOrder_75 ?_
    refine lv_topi (fun x5_22 ex5_22 => ?_)
    replace h := pl_v h ex5_22
    refine lv_istore (lv' := [(5, .int x5_22), (4, .int x4_21), (0, .ref q_t), (1, .int a1), (2, .int x2_7), (3, .int x3_16)]) hx hb dX10_nextOrder_76 hl (by decide) rfl (fun ls hl => ?_)
    obtain ⟨t_order_28, hz_30, h⟩ := bd_ok h
    refine l_X10_nextOrder_3 ⟨hx, hb, hml, hown, hts⟩ G hK hA q_t q_t_z q_t_old q_t_past q_t_kept q_t_text q_t_order q_t_told q_t_rowsTaken q_t_columnsTaken q_t_ways q_t_scaled q_t_rowFactors q_t_columnFactors q_t_rest q_t_diagonals q_t_weights t_states t_isKept t_length t_spot t_toldRows t_order_28 ?_ FU x4_21 x5_22 t_order_19 hz_30 H locs ls hP hD hS (lv_sub hl [2, 1, 0] rfl)
    intro H locs ls hP hD hS hl
    refine lv_iconst (v := 1) hx hb dX10_nextOrder_102 (by decide) ?_
    obtain ⟨rfl, rfl⟩ := sm2 h
    exact KR H locs ls 103 dX10_nextOrder_103 (Or.inr rfl) hP hD hS
  · replace h := it_f h c_10
    refine lv_iconst (v := 0) hx hb dX10_nextOrder_35 (by decide) ?_
    obtain ⟨rfl, rfl⟩ := sm2 h
    exact KR H locs ls 36 dX10_nextOrder_36 (Or.inl rfl) hP hD hS
set_option maxHeartbeats 4000000 in
set_option maxRecDepth 100000 in
theorem c_X10_nextOrder (l : Launch) (G : GT) (q_t q_t_z q_t_old q_t_past q_t_kept q_t_text q_t_order q_t_told q_t_rowsTaken q_t_columnsTaken q_t_ways q_t_scaled q_t_rowFactors q_t_columnFactors q_t_rest q_t_diagonals q_t_weights : Nat) (sz : Nat) (t_states : Int32) (t_isKept : Int32) (t_length : Int32) (t_spot : Int32) (t_toldRows : Int32) (t_order : Nat → Int32) (a1 : Int32) (r : Int32) (o_t_order : Nat → Int32) (h : f_X10_nextOrder t_order a1 = some (r, o_t_order)) : Met l yX10_nextOrder wsX10_nextOrder ({ frames := 1, cells := 0, slots := 0, locals := 23 } : Room) (va_Pc [.ref q_t, .int a1] (pcW G [(q_t, .inr (9, [.ref q_t_z, .ref q_t_old, .ref q_t_past, .int t_states, .ref q_t_kept, .int t_isKept, .ref q_t_text, .int t_length, .ref q_t_order, .ref q_t_told, .int t_spot, .int t_toldRows, .ref q_t_rowsTaken, .ref q_t_columnsTaken, .ref q_t_ways, .ref q_t_scaled, .ref q_t_rowFactors, .ref q_t_columnFactors, .ref q_t_rest, .ref q_t_diagonals, .ref q_t_weights])), (q_t_order, .inl (G.2 0, 7, .inl t_order))] sz)) (va_Qi (fun r9 (_ : Unit) => r9 = r) (fun _ t => atW G (va_A [(q_t, .inr (9, [.ref q_t_z, .ref q_t_old, .ref q_t_past, .int t_states, .ref q_t_kept, .int t_isKept, .ref q_t_text, .int t_length, .ref q_t_order, .ref q_t_told, .int t_spot, .int t_toldRows, .ref q_t_rowsTaken, .ref q_t_columnsTaken, .ref q_t_ways, .ref q_t_scaled, .ref q_t_rowFactors, .ref q_t_columnFactors, .ref q_t_rest, .ref q_t_diagonals, .ref q_t_weights])), (q_t_order, .inl (G.2 0, 7, .inl t_order))] sz) [(q_t, .inr (9, [.ref q_t_z, .ref q_t_old, .ref q_t_past, .int t_states, .ref q_t_kept, .int t_isKept, .ref q_t_text, .int t_length, .ref q_t_order, .ref q_t_told, .int t_spot, .int t_toldRows, .ref q_t_rowsTaken, .ref q_t_columnsTaken, .ref q_t_ways, .ref q_t_scaled, .ref q_t_rowFactors, .ref q_t_columnFactors, .ref q_t_rest, .ref q_t_diagonals, .ref q_t_weights])), (q_t_order, .inl (G.2 0, 7, .inl o_t_order))] t) (va_A [(q_t, .inr (9, [.ref q_t_z, .ref q_t_old, .ref q_t_past, .int t_states, .ref q_t_kept, .int t_isKept, .ref q_t_text, .int t_length, .ref q_t_order, .ref q_t_told, .int t_spot, .int t_toldRows, .ref q_t_rowsTaken, .ref q_t_columnsTaken, .ref q_t_ways, .ref q_t_scaled, .ref q_t_rowFactors, .ref q_t_columnFactors, .ref q_t_rest, .ref q_t_diagonals, .ref q_t_weights])), (q_t_order, .inl (G.2 0, 7, .inl t_order))] sz)) 0 0 (va_A [(q_t, .inr (9, [.ref q_t_z, .ref q_t_old, .ref q_t_past, .int t_states, .ref q_t_kept, .int t_isKept, .ref q_t_text, .int t_length, .ref q_t_order, .ref q_t_told, .int t_spot, .int t_toldRows, .ref q_t_rowsTaken, .ref q_t_columnsTaken, .ref q_t_ways, .ref q_t_scaled, .ref q_t_rowFactors, .ref q_t_columnFactors, .ref q_t_rest, .ref q_t_diagonals, .ref q_t_weights])), (q_t_order, .inl (G.2 0, 7, .inl t_order))] sz) := by
  refine Met.ofW (cc := cX10_nextOrder) (maxL := 6) (ret := (some .boolean)) (by decide) rfl ?_
  intro p e s m args below meth c s₁ B hml hv
  obtain ⟨rfl, hsz, hP, hK, hD0⟩ := hv
  subst hsz
  have hD := hD0.self (sz := s.heap.size)
  generalize hAe : va_A [(q_t, .inr (9, [.ref q_t_z, .ref q_t_old, .ref q_t_past, .int t_states, .ref q_t_kept, .int t_isKept, .ref q_t_text, .int t_length, .ref q_t_order, .ref q_t_told, .int t_spot, .int t_toldRows, .ref q_t_rowsTaken, .ref q_t_columnsTaken, .ref q_t_ways, .ref q_t_scaled, .ref q_t_rowFactors, .ref q_t_columnFactors, .ref q_t_rest, .ref q_t_diagonals, .ref q_t_weights])), (q_t_order, .inl (G.2 0, 7, .inl t_order))] s.heap.size = A at hD ⊢
  have hA : ∀ q : Nat, s.heap.size ≤ q → A q := fun q h => by rw [← hAe]; exact Or.inr h
  have hl := lv_entry ([.ref q_t, .int a1]) (n := 6) (Nat.le_of_ble_eq_true rfl)
  rw [lg_entry_eq]
  refine k_X10_nextOrder ⟨B.exec, B.bytes, hml, findClass_of_methodNamed B.named, atoms_spec (ws := wsX10_nextOrder) B.pre⟩ G hK hA q_t q_t_z q_t_old q_t_past q_t_kept q_t_text q_t_order q_t_told q_t_rowsTaken q_t_columnsTaken q_t_ways q_t_scaled q_t_rowFactors q_t_columnFactors q_t_rest q_t_diagonals q_t_weights _ _ _ _ _ _ _ _ _ h ?_ _ _ _ hP hD va_S.rf hl
  intro H locs ls pc hd hbo hP hD hS
  exact W.zret B.exec B.bytes B.returns (by rcases hbo with e | e <;> subst e <;> rfl) (fun t ht hW => ⟨⟨r, (), rfl, rfl, by rw [ht]; exact hP, hD⟩, hS.F ht⟩) hS.2.2 hd B.notSynchronized
