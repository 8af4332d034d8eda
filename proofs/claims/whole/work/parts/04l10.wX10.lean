set_option maxRecDepth 20000 in
theorem wd_X10_scaledSum_1 : Cond.fieldLink RX10 7 "PermanentDeskModel" "z" "[I" ∈ wsX10_scaledSum := List.mem_of_getElem? (i := 1) (by decide +kernel)
set_option maxRecDepth 20000 in
theorem wi_X10_scaledSum_X10 : ∀ w ∈ u_ws RX10 TX10 21, w ∈ wsX10_scaledSum := by decide +kernel
set_option maxRecDepth 20000 in
theorem wd_X10_scaledSum_2 : Cond.fieldLink RX10 40 "PermanentDeskModel" "scaled" "[D" ∈ wsX10_scaledSum := List.mem_of_getElem? (i := 2) (by decide +kernel)
def f_X10_scaledSum_L1 (x1 : Int32) (x2 : Int32) (t_z : Nat → Int32) (t_scaled : Nat → UInt64) : (UInt64 × Int32) → Option ((UInt64 × Int32) ⊕ UInt64)
  | (x3, x5) =>
    gd (okI (49 : Int32) 50) (
    if (t_z (49 : Int32).toNatClampNeg) ≤ x5 then
      some (.inr x3)
    else
      if x2 = 0 then
        gd (okI (((7 : Int32) * x1) + x5) 49) (
        gd (okD (FP.dadd x3 (t_scaled (((7 : Int32) * x1) + x5).toNatClampNeg))) (
        pl ((FP.dadd x3 (t_scaled (((7 : Int32) * x1) + x5).toNatClampNeg)) : UInt64) (fun x3_6 =>
        pl ((x5 + (1 : Int32)) : Int32) (fun x5_7 =>
        some (.inl (x3_6, x5_7))))))
      else
        gd (okI (((7 : Int32) * x5) + x1) 49) (
        gd (okD (FP.dadd x3 (t_scaled (((7 : Int32) * x5) + x1).toNatClampNeg))) (
        pl ((FP.dadd x3 (t_scaled (((7 : Int32) * x5) + x1).toNatClampNeg)) : UInt64) (fun x3_10 =>
        pl ((x5 + (1 : Int32)) : Int32) (fun x5_11 =>
        some (.inl (x3_10, x5_11)))))))
def f_X10_scaledSum (t_z : Nat → Int32) (t_scaled : Nat → UInt64) (a1 : Int32) (a2 : Int32) : Option UInt64 :=
  (lpN (f_X10_scaledSum_L1 a1 a2 t_z t_scaled) FU (FP.dconst0, (0 : Int32))).bind (fun x3_12 =>
  some x3_12)
set_option maxHeartbeats 4000000 in
set_option maxRecDepth 100000 in
theorem l_X10_scaledSum_1 {p : Program} {l : Launch} {e : Env} {s : State} {m : MethodId} {args : Array Value} {below : List Frame} {meth : Method} {c : Code} {Q : State → Prop} {A0 : Nat → Prop} {H0 : Heap} (C : CallFix p m c cX10_scaledSum 6 s args wsX10_scaledSum RX10) (G : GT) (hK : gK G s) (hA : ∀ q : Nat, H0.size ≤ q → A0 q) (q_t q_t_z q_t_old q_t_past q_t_kept q_t_text q_t_order q_t_told q_t_rowsTaken q_t_columnsTaken q_t_ways q_t_scaled q_t_rowFactors q_t_columnFactors q_t_rest q_t_diagonals q_t_weights : Nat) (x1 : Int32) (x2 : Int32) (t_states : Int32) (t_isKept : Int32) (t_length : Int32) (t_spot : Int32) (t_toldRows : Int32) (t_z : Nat → Int32) (t_scaled : Nat → UInt64) (E_x3 : UInt64) (K : ∀ (H : Heap) (locs : List Loc) (ls : Array Slot), va_P G.1 vwCl [(q_t, .inr (9, [.ref q_t_z, .ref q_t_old, .ref q_t_past, .int t_states, .ref q_t_kept, .int t_isKept, .ref q_t_text, .int t_length, .ref q_t_order, .ref q_t_told, .int t_spot, .int t_toldRows, .ref q_t_rowsTaken, .ref q_t_columnsTaken, .ref q_t_ways, .ref q_t_scaled, .ref q_t_rowFactors, .ref q_t_columnFactors, .ref q_t_rest, .ref q_t_diagonals, .ref q_t_weights])), (q_t_z, .inl (G.2 0, 50, .inl t_z)), (q_t_scaled, .inl (G.2 2, 49, .inr (.inr (.inr (.inl t_scaled)))))] H → va_D A0 [(q_t, .inr (9, [.ref q_t_z, .ref q_t_old, .ref q_t_past, .int t_states, .ref q_t_kept, .int t_isKept, .ref q_t_text, .int t_length, .ref q_t_order, .ref q_t_told, .int t_spot, .int t_toldRows, .ref q_t_rowsTaken, .ref q_t_columnsTaken, .ref q_t_ways, .ref q_t_scaled, .ref q_t_rowFactors, .ref q_t_columnFactors, .ref q_t_rest, .ref q_t_diagonals, .ref q_t_weights])), (q_t_z, .inl (G.2 0, 50, .inl t_z)), (q_t_scaled, .inl (G.2 2, 49, .inr (.inr (.inr (.inl t_scaled)))))] → va_S A0 H0 H locs → lv_has ls 6 [(3, .double E_x3)] → W p l e ({ frames := 0, cells := 0, slots := 0, locals := 0 } : Room) s m args below meth c H locs 0 0 Q (F0 m 52 ls [])) : ∀ (n : Nat) (x3 : UInt64) (x5 : Int32), lpN (f_X10_scaledSum_L1 x1 x2 t_z t_scaled) n (x3, x5) = some E_x3 → ∀ (H : Heap) (locs : List Loc) (ls : Array Slot), va_P G.1 vwCl [(q_t, .inr (9, [.ref q_t_z, .ref q_t_old, .ref q_t_past, .int t_states, .ref q_t_kept, .int t_isKept, .ref q_t_text, .int t_length, .ref q_t_order, .ref q_t_told, .int t_spot, .int t_toldRows, .ref q_t_rowsTaken, .ref q_t_columnsTaken, .ref q_t_ways, .ref q_t_scaled, .ref q_t_rowFactors, .ref q_t_columnFactors, .ref q_t_rest, .ref q_t_diagonals, .ref q_t_weights])), (q_t_z, .inl (G.2 0, 50, .inl t_z)), (q_t_scaled, .inl (G.2 2, 49, .inr (.inr (.inr (.inl t_scaled)))))] H → va_D A0 [(q_t, .inr (9, [.ref q_t_z, .ref q_t_old, .ref q_t_past, .int t_states, .ref q_t_kept, .int t_isKept, .ref q_t_text, .int t_length, .ref q_t_order, .ref q_t_told, .int t_spot, .int t_toldRows, .ref q_t_rowsTaken, .ref q_t_columnsTaken, .ref q_t_ways, .ref q_t_scaled, .ref q_t_rowFactors, .ref q_t_columnFactors, .ref q_t_rest, .ref q_t_diagonals, .ref q_t_weights])), (q_t_z, .inl (G.2 0, 50, .inl t_z)), (q_t_scaled, .inl (G.2 2, 49, .inr (.inr (.inr (.inl t_scaled)))))] → va_S A0 H0 H locs → lv_has ls 6 [(0, .ref q_t), (1, .int x1), (2, .int x2), (3, .double x3), (5, .int x5)] → W p l e ({ frames := 0, cells := 0, slots := 0, locals := 0 } : Room) s m args below meth c H locs 0 0 Q (F0 m 5 ls []) := by
  obtain ⟨hx, hb, hml, hown, hts⟩ := C
  intro n
  induction n with
  | zero => intro x3 x5 h; exact absurd h (fun h => lp_0 h)
  | succ n ih =>
    intro x3 x5 h H locs ls hP hD hS hl
    obtain ⟨y, h, hk⟩ := lp_s h
    rw [f_X10_scaledSum_L1] at h
    refine lv_iload hx hb dX10_scaledSum_5 (lv_at hl 4 rfl) ?_
    refine lv_aload_n hx hb dX10_scaledSum_7 rfl (lv_at hl 0 rfl) ?_
    refine va_get (D := G.1) (ci := 9) (v := .ref q_t_z) (C := RX10) (T := TX10) (N := 21) hx hb hts wi_X10_scaledSum_X10 hown hK hP 0 rfl rfl 0 (by decide) (hts _ wd_X10_scaledSum_1) (fun _ h9 => h9) rfl dX10_scaledSum_8 ?_
    refine lv_bipush (v := 49) hx hb dX10_scaledSum_11 (by decide) ?_
    obtain ⟨g_1, h⟩ := gd_ok h
    refine va_iald (D := G.1) hx hb hK hP 1 0 rfl rfl g_1 dX10_scaledSum_13 ?_
    refine lv_icmp_ge (tgt := 52) hx hb dX10_scaledSum_14 (by decide) (fun c_2 => ?_) (fun c_2 => ?_)
    · replace h := it_t h c_2
      obtain rfl := sm1 h
      obtain rfl := sm1 hk
      exact K H locs ls hP hD hS (lv_sub hl [3] rfl)
    · replace h := it_f h c_2
      refine lv_dload_n hx hb dX10_scaledSum_17 rfl (lv_at hl 3 rfl) ?_
      refine lv_aload_n hx hb dX10_scaledSum_18 rfl (lv_at hl 0 rfl) ?_
      refine va_get (D := G.1) (ci := 9) (v := .ref q_t_scaled) (C := RX10) (T := TX10) (N := 21) hx hb hts wi_X10_scaledSum_X10 hown hK hP 0 rfl rfl 15 (by decide) (hts _ wd_X10_scaledSum_2) (fun _ h9 => h9) rfl dX10_scaledSum_19 ?_
      refine lv_iload_n hx hb dX10_scaledSum_22 rfl (lv_at hl 2 rfl) ?_
      refine lv_if_eq (tgt := 36) hx hb dX10_scaledSum_23 (by decide) (fun c_3 => ?_) (fun c_3 => ?_)
      · replace h := it_t h c_3
        refine lv_bipush (v := 7) hx hb dX10_scaledSum_36 (by decide) ?_
        refine lv_iload_n hx hb dX10_scaledSum_38 rfl (lv_at hl 1 rfl) ?_
        refine lv_imul hx hb dX10_scaledSum_39 ?_
        refine lv_iload hx hb dX10_scaledSum_40 (lv_at hl 4 rfl) ?_
        refine lv_iadd hx hb dX10_scaledSum_42 ?_
        obtain ⟨g_4, h⟩ := gd_ok h
        refine va_dald (D := G.1) hx hb hK hP 2 2 rfl rfl g_4 dX10_scaledSum_43 ?_
        obtain ⟨g_5, h⟩ := gd_ok h
        refine lv_dadd hx hb dX10_scaledSum_44 g_5 ?_
        refine lv_topd (fun x3_6 ex3_6 => ?_)
        replace h := pl_v h ex3_6
        refine lv_dstore_n (lv' := [(3, .double x3_6), (0, .ref q_t), (1, .int x1), (2, .int x2), (5, .int x5)]) hx hb dX10_scaledSum_45 rfl hl (by decide) rfl (fun ls hl => ?_)
        obtain ⟨x5_7, ex5_7, h⟩ := pl_ok h
        refine lv_iinc (v := x5_7) (lv' := [(5, .int x5_7), (3, .double x3_6), (0, .ref q_t), (1, .int x1), (2, .int x2)]) hx hb dX10_scaledSum_46 hl (k := 4) rfl (by rw [ex5_7]; rfl) (by decide) rfl (fun ls hl => ?_)
        refine lv_goto (tgt := 5) hx hb dX10_scaledSum_49 (by decide) ?_
        obtain rfl := sm1 h
        exact ih x3_6 x5_7 hk H locs ls hP hD hS (lv_sub hl [2, 3, 4, 1, 0] rfl)
      · replace h := it_f h c_3
        refine lv_bipush (v := 7) hx hb dX10_scaledSum_26 (by decide) ?_
        refine lv_iload hx hb dX10_scaledSum_28 (lv_at hl 4 rfl) ?_
        refine lv_imul hx hb dX10_scaledSum_30 ?_
        refine lv_iload_n hx hb dX10_scaledSum_31 rfl (lv_at hl 1 rfl) ?_
        refine lv_iadd hx hb dX10_scaledSum_32 ?_
        refine lv_goto (tgt := 43) hx hb dX10_scaledSum_33 (by decide) ?_
        obtain ⟨g_8, h⟩ := gd_ok h
        refine va_dald (D := G.1) hx hb hK hP 2 2 rfl rfl g_8 dX10_scaledSum_43 ?_
        obtain ⟨g_9, h⟩ := gd_ok h
        refine lv_dadd hx hb dX10_scaledSum_44 g_9 ?_
        refine lv_topd (fun x3_10 ex3_10 => ?_)
        replace h := pl_v h ex3_10
        refine lv_dstore_n (lv' := [(3, .double x3_10), (0, .ref q_t), (1, .int x1), (2, .int x2), (5, .int x5)]) hx hb dX10_scaledSum_45 rfl hl (by decide) rfl (fun ls hl => ?_)
        obtain ⟨x5_11, ex5_11, h⟩ := pl_ok h
        refine lv_iinc (v := x5_11) (lv' := [(5, .int x5_11), (3, .double x3_10), (0, .ref q_t), (1, .int x1), (2, .int x2)]) hx hb dX10_scaledSum_46 hl (k := 4) rfl (by rw [ex5_11]; rfl) (by decide) rfl (fun ls hl => ?_)
        refine lv_goto (tgt := 5) hx hb dX10_scaledSum_49 (by decide) ?_
        obtain rfl := sm1 h
        exact ih x3_10 x5_11 hk H locs ls hP hD hS (lv_sub hl [2, 3, 4, 1, 0] rfl)
set_option maxHeartbeats 4000000 in
set_option maxRecDepth 100000 in
theorem k_X10_scaledSum {p : Program} {l : Launch} {e : Env} {s : State} {m : MethodId} {args : Array Value} {below : List Frame} {meth : Method} {c : Code} {Q : State → Prop} {A0 : Nat → Prop} {H0 : Heap} (C : CallFix p m c cX10_scaledSum 6 s args wsX10_scaledSum RX10) (G : GT) (hK : gK G s) (hA : ∀ q : Nat, H0.size ≤ q → A0 q) (q_t q_t_z q_t_old q_t_past q_t_kept q_t_text q_t_order q_t_told q_t_rowsTaken q_t_columnsTaken q_t_ways q_t_scaled q_t_rowFactors q_t_columnFactors q_t_rest q_t_diagonals q_t_weights : Nat) (t_states : Int32) (t_isKept : Int32) (t_length : Int32) (t_spot : Int32) (t_toldRows : Int32) (t_z : Nat → Int32) (t_scaled : Nat → UInt64) (a1 : Int32) (a2 : Int32) (r : UInt64) (h : f_X10_scaledSum t_z t_scaled a1 a2 = some r) (KR : ∀ (H : Heap) (locs : List Loc) (ls : Array Slot) (pc : Nat), decode cX10_scaledSum pc = .ok (.dreturn, 1) → va_P G.1 vwCl [(q_t, .inr (9, [.ref q_t_z, .ref q_t_old, .ref q_t_past, .int t_states, .ref q_t_kept, .int t_isKept, .ref q_t_text, .int t_length, .ref q_t_order, .ref q_t_told, .int t_spot, .int t_toldRows, .ref q_t_rowsTaken, .ref q_t_columnsTaken, .ref q_t_ways, .ref q_t_scaled, .ref q_t_rowFactors, .ref q_t_columnFactors, .ref q_t_rest, .ref q_t_diagonals, .ref q_t_weights])), (q_t_z, .inl (G.2 0, 50, .inl t_z)), (q_t_scaled, .inl (G.2 2, 49, .inr (.inr (.inr (.inl t_scaled)))))] H → va_D A0 [(q_t, .inr (9, [.ref q_t_z, .ref q_t_old, .ref q_t_past, .int t_states, .ref q_t_kept, .int t_isKept, .ref q_t_text, .int t_length, .ref q_t_order, .ref q_t_told, .int t_spot, .int t_toldRows, .ref q_t_rowsTaken, .ref q_t_columnsTaken, .ref q_t_ways, .ref q_t_scaled, .ref q_t_rowFactors, .ref q_t_columnFactors, .ref q_t_rest, .ref q_t_diagonals, .ref q_t_weights])), (q_t_z, .inl (G.2 0, 50, .inl t_z)), (q_t_scaled, .inl (G.2 2, 49, .inr (.inr (.inr (.inl t_scaled)))))] → va_S A0 H0 H locs → W p l e ({ frames := 0, cells := 0, slots := 0, locals := 0 } : Room) s m args below meth c H locs 0 0 Q (F0 m pc ls [.double r])) : ∀ (H : Heap) (locs : List Loc) (ls : Array Slot), va_P G.1 vwCl [(q_t, .inr (9, [.ref q_t_z, .ref q_t_old, .ref q_t_past, .int t_states, .ref q_t_kept, .int t_isKept, .ref q_t_text, .int t_length, .ref q_t_order, .ref q_t_told, .int t_spot, .int t_toldRows, .ref q_t_rowsTaken, .ref q_t_columnsTaken, .ref q_t_ways, .ref q_t_scaled, .ref q_t_rowFactors, .ref q_t_columnFactors, .ref q_t_rest, .ref q_t_diagonals, .ref q_t_weights])), (q_t_z, .inl (G.2 0, 50, .inl t_z)), (q_t_scaled, .inl (G.2 2, 49, .inr (.inr (.inr (.inl t_scaled)))))] H → va_D A0 [(q_t, .inr (9, [.ref q_t_z, .ref q_t_old, .ref q_t_past, .int t_states, .ref q_t_kept, .int t_isKept, .ref q_t_text, .int t_length, .ref q_t_order, .ref q_t_told, .int t_spot, .int t_toldRows, .ref q_t_rowsTaken, .ref q_t_columnsTaken, .ref q_t_ways, .ref q_t_scaled, .ref q_t_rowFactors, .ref q_t_columnFactors, .ref q_t_rest, .ref q_t_diagonals, .ref q_t_weights])), (q_t_z, .inl (G.2 0, 50, .inl t_z)), (q_t_scaled, .inl (G.2 2, 49, .inr (.inr (.inr (.inl t_scaled)))))] → va_S A0 H0 H locs → lv_has ls 6 [(0, .ref q_t), (1, .int a1), (2, .int a2)] → W p l e ({ frames := 0, cells := 0, slots := 0, locals := 0 } : Room) s m args below meth c H locs 0 0 Q (F0 m 0 ls []) := by
  obtain ⟨hx, hb, hml, hown, hts⟩ := C
  intro H locs ls hP hD hS hl
  rw [f_X10_scaledSum] at h
  refine lv_dconst0 hx hb dX10_scaledSum_0 ?_
  refine lv_dstore_n (lv' := [(3, .double FP.dconst0), (0, .ref q_t), (1, .int a1), (2, .int a2)]) hx hb dX10_scaledSum_1 rfl hl (by decide) rfl (fun ls hl => ?_)
  refine lv_iconst (v := 0) hx hb dX10_scaledSum_2 (by decide) ?_
  refine lv_istore (lv' := [(5, .int (0 : Int32)), (3, .double FP.dconst0), (0, .ref q_t), (1, .int a1), (2, .int a2)]) hx hb dX10_scaledSum_3 hl (by decide) rfl (fun ls hl => ?_)
  obtain ⟨x3_12, hz_14, h⟩ := bd_ok h
  refine l_X10_scaledSum_1 ⟨hx, hb, hml, hown, hts⟩ G hK hA q_t q_t_z q_t_old q_t_past q_t_kept q_t_text q_t_order q_t_told q_t_rowsTaken q_t_columnsTaken q_t_ways q_t_scaled q_t_rowFactors q_t_columnFactors q_t_rest q_t_diagonals q_t_weights a1 a2 t_states t_isKept t_length t_spot t_toldRows t_z t_scaled x3_12 ?_ FU FP.dconst0 (0 : Int32) hz_14 H locs ls hP hD hS (lv_sub hl [2, 3, 4, 1, 0] rfl)
  intro H locs ls hP hD hS hl
  refine lv_dload_n hx hb dX10_scaledSum_52 rfl (lv_at hl 0 rfl) ?_
  obtain rfl := sm1 h
  exact KR H locs ls 53 dX10_scaledSum_53 hP hD hS
set_option maxHeartbeats 4000000 in
set_option maxRecDepth 100000 in
theorem c_X10_scaledSum (l : Launch) (G : GT) (q_t q_t_z q_t_old q_t_past q_t_kept q_t_text q_t_order q_t_told q_t_rowsTaken q_t_columnsTaken q_t_ways q_t_scaled q_t_rowFactors q_t_columnFactors q_t_rest q_t_diagonals q_t_weights : Nat) (sz : Nat) (t_states : Int32) (t_isKept : Int32) (t_length : Int32) (t_spot : Int32) (t_toldRows : Int32) (t_z : Nat → Int32) (t_scaled : Nat → UInt64) (a1 : Int32) (a2 : Int32) (r : UInt64) (h : f_X10_scaledSum t_z t_scaled a1 a2 = some r) : Met l yX10_scaledSum wsX10_scaledSum ({ frames := 0, cells := 0, slots := 0, locals := 0 } : Room) (va_Pc [.ref q_t, .int a1, .int a2] (pcW G [(q_t, .inr (9, [.ref q_t_z, .ref q_t_old, .ref q_t_past, .int t_states, .ref q_t_kept, .int t_isKept, .ref q_t_text, .int t_length, .ref q_t_order, .ref q_t_told, .int t_spot, .int t_toldRows, .ref q_t_rowsTaken, .ref q_t_columnsTaken, .ref q_t_ways, .ref q_t_scaled, .ref q_t_rowFactors, .ref q_t_columnFactors, .ref q_t_rest, .ref q_t_diagonals, .ref q_t_weights])), (q_t_z, .inl (G.2 0, 50, .inl t_z)), (q_t_scaled, .inl (G.2 2, 49, .inr (.inr (.inr (.inl t_scaled)))))] sz)) (va_Qd (fun r9 (_ : Unit) => r9 = r) (fun _ t => atW G (va_A [(q_t, .inr (9, [.ref q_t_z, .ref q_t_old, .ref q_t_past, .int t_states, .ref q_t_kept, .int t_isKept, .ref q_t_text, .int t_length, .ref q_t_order, .ref q_t_told, .int t_spot, .int t_toldRows, .ref q_t_rowsTaken, .ref q_t_columnsTaken, .ref q_t_ways, .ref q_t_scaled, .ref q_t_rowFactors, .ref q_t_columnFactors, .ref q_t_rest, .ref q_t_diagonals, .ref q_t_weights])), (q_t_z, .inl (G.2 0, 50, .inl t_z)), (q_t_scaled, .inl (G.2 2, 49, .inr (.inr (.inr (.inl t_scaled)))))] sz) [(q_t, .inr (9, [.ref q_t_z, .ref q_t_old, .ref q_t_past, .int t_states, .ref q_t_kept, .int t_isKept, .ref q_t_text, .int t_length, .ref q_t_order, .ref q_t_told, .int t_spot, .int t_toldRows, .ref q_t_rowsTaken, .ref q_t_columnsTaken, .ref q_t_ways, .ref q_t_scaled, .ref q_t_rowFactors, .ref q_t_columnFactors, .ref q_t_rest, .ref q_t_diagonals, .ref q_t_weights])), (q_t_z, .inl (G.2 0, 50, .inl t_z)), (q_t_scaled, .inl (G.2 2, 49, .inr (.inr (.inr (.inl t_scaled)))))] t) (va_A [(q_t, .inr (9, [.ref q_t_z, .ref q_t_old, .ref q_t_past, .int t_states, .ref q_t_kept, .int t_isKept, .ref q_t_text, .int t_length, .ref q_t_order, .ref q_t_told, .int t_spot, .int t_toldRows, .ref q_t_rowsTaken, .ref q_t_columnsTaken, .ref q_t_ways, .ref q_t_scaled, .ref q_t_rowFactors, .ref q_t_columnFactors, .ref q_t_rest, .ref q_t_diagonals, .ref q_t_weights])), (q_t_z, .inl (G.2 0, 50, .inl t_z)), (q_t_scaled, .inl (G.2 2, 49, .inr (.inr (.inr (.inl t_scaled)))))] sz)) 0 0 (va_A [(q_t, .inr (9, [.ref q_t_z, .ref q_t_old, .ref q_t_past, .int t_states, .ref q_t_kept, .int t_isKept, .ref q_t_text, .int t_length, .ref q_t_order, .ref q_t_told, .int t_spot, .int t_toldRows, .ref q_t_rowsTaken, .ref q_t_columnsTaken, .ref q_t_ways, .ref q_t_scaled, .ref q_t_rowFactors, .ref q_t_columnFactors, .ref q_t_rest, .ref q_t_diagonals, .ref q_t_weights])), (q_t_z, .inl (G.2 0, 50, .inl t_z)), (q_t_scaled, .inl (G.2 2, 49, .inr (.inr (.inr (.inl t_scaled)))))] sz) := by
  refine Met.ofW (cc := cX10_scaledSum) (maxL := 6) (ret := (some .double)) (by decide) rfl ?_
  intro p e s m args below meth c s₁ B hml hv
  obtain ⟨rfl, hsz, hP, hK, hD0⟩ := hv
  subst hsz
  have hD := hD0.self (sz := s.heap.size)
  generalize hAe : va_A [(q_t, .inr (9, [.ref q_t_z, .ref q_t_old, .ref q_t_past, .int t_states, .ref q_t_kept, .int t_isKept, .ref q_t_text, .int t_length, .ref q_t_order, .ref q_t_told, .int t_spot, .int t_toldRows, .ref q_t_rowsTaken, .ref q_t_columnsTaken, .ref q_t_ways, .ref q_t_scaled, .ref q_t_rowFactors, .ref q_t_columnFactors, .ref q_t_rest, .ref q_t_diagonals, .ref q_t_weights])), (q_t_z, .inl (G.2 0, 50, .inl t_z)), (q_t_scaled, .inl (G.2 2, 49, .inr (.inr (.inr (.inl t_scaled)))))] s.heap.size = A at hD ⊢
  have hA : ∀ q : Nat, s.heap.size ≤ q → A q := fun q h => by rw [← hAe]; exact Or.inr h
  have hl := lv_entry ([.ref q_t, .int a1, .int a2]) (n := 6) (Nat.le_of_ble_eq_true rfl)
  rw [lg_entry_eq]
  refine k_X10_scaledSum ⟨B.exec, B.bytes, hml, findClass_of_methodNamed B.named, atoms_spec (ws := wsX10_scaledSum) B.pre⟩ G hK hA q_t q_t_z q_t_old q_t_past q_t_kept q_t_text q_t_order q_t_told q_t_rowsTaken q_t_columnsTaken q_t_ways q_t_scaled q_t_rowFactors q_t_columnFactors q_t_rest q_t_diagonals q_t_weights _ _ _ _ _ _ _ _ _ _ h ?_ _ _ _ hP hD va_S.rf hl
  intro H locs ls pc hd hP hD hS
  exact W.dret B.exec B.bytes B.returns (fun t ht hW => ⟨⟨r, (), rfl, rfl, by rw [ht]; exact hP, hD⟩, hS.F ht⟩) hS.2.2 hd B.notSynchronized
set_option maxRecDepth 20000 in
theorem wd_X10_sweepLine_1 : Cond.fieldLink RX10 7 "PermanentDeskModel" "z" "[I" ∈ wsX10_sweepLine := List.mem_of_getElem? (i := 1) (by decide +kernel)
set_option maxRecDepth 20000 in
theorem wi_X10_sweepLine_X10 : ∀ w ∈ u_ws RX10 TX10 21, w ∈ wsX10_sweepLine := by decide +kernel
set_option maxRecDepth 20000 in
theorem wd_X10_sweepLine_2 : Cond.fieldLink RX10 40 "PermanentDeskModel" "scaled" "[D" ∈ wsX10_sweepLine := List.mem_of_getElem? (i := 2) (by decide +kernel)
set_option maxRecDepth 20000 in
theorem wd_X10_sweepLine_4 : Cond.fieldLink RX10 44 "PermanentDeskModel" "rowFactors" "[D" ∈ wsX10_sweepLine := List.mem_of_getElem? (i := 4) (by decide +kernel)
set_option maxRecDepth 20000 in
theorem wd_X10_sweepLine_3 : Cond.fieldLink RX10 47 "PermanentDeskModel" "columnFactors" "[D" ∈ wsX10_sweepLine := List.mem_of_getElem? (i := 3) (by decide +kernel)
def f_X10_sweepLine_L1 (x1 : Int32) (x2 : Int32) (x3 : UInt64) (t_z : Nat → Int32) : (Int32 × (Nat → UInt64)) → Option ((Int32 × (Nat → UInt64)) ⊕ (Nat → UInt64))
  | (x5, t_scaled) =>
    gd (okI (49 : Int32) 50) (
    if (t_z (49 : Int32).toNatClampNeg) ≤ x5 then
      some (.inr t_scaled)
    else
      Option.bind (
        if x2 = 0 then
          some (((7 : Int32) * x1) + x5)
        else
          some (((7 : Int32) * x5) + x1)) (fun y_6 =>
      gd (okI y_6 49) (
      gd (okD (FP.ddiv (t_scaled y_6.toNatClampNeg) x3)) (
      gd (okI y_6 49) (
      pl ((vf_upd t_scaled y_6.toNatClampNeg (FP.ddiv (t_scaled y_6.toNatClampNeg) x3)) : Nat → UInt64) (fun t_scaled_10 =>
      pl ((x5 + (1 : Int32)) : Int32) (fun x5_11 =>
      some (.inl (x5_11, t_scaled_10)))))))))
def f_X10_sweepLine (t_z : Nat → Int32) (t_scaled : Nat → UInt64) (t_rowFactors : Nat → UInt64) (t_columnFactors : Nat → UInt64) (a1 : Int32) (a2 : Int32) : Option ((Nat → UInt64) × (Nat → UInt64) × (Nat → UInt64)) :=
  (f_X10_scaledSum t_z t_scaled a1 a2).bind (fun r_1 =>
  (lpN (f_X10_sweepLine_L1 a1 a2 r_1 t_z) FU ((0 : Int32), t_scaled)).bind (fun t_scaled_12 =>
  if a2 = 0 then
    gd (okI a1 7) (
    gd (okD (FP.dmul (t_rowFactors a1.toNatClampNeg) r_1)) (
    gd (okI a1 7) (
    pl ((vf_upd t_rowFactors a1.toNatClampNeg (FP.dmul (t_rowFactors a1.toNatClampNeg) r_1)) : Nat → UInt64) (fun t_rowFactors_19 =>
    some (t_scaled_12, t_rowFactors_19, t_columnFactors)))))
  else
    gd (okI a1 7) (
    gd (okD (FP.dmul (t_columnFactors a1.toNatClampNeg) r_1)) (
    gd (okI a1 7) (
    pl ((vf_upd t_columnFactors a1.toNatClampNeg (FP.dmul (t_columnFactors a1.toNatClampNeg) r_1)) : Nat → UInt64) (fun t_columnFactors_23 =>
    some (t_scaled_12, t_rowFactors, t_columnFactors_23)))))))
set_option maxHeartbeats 4000000 in
set_option maxRecDepth 100000 in
theorem l_X10_sweepLine_1 {p : Program} {l : Launch} {e : Env} {s : State} {m : MethodId} {args : Array Value} {below : List Frame} {meth : Method} {c : Code} {Q : State → Prop} {A0 : Nat → Prop} {H0 : Heap} (C : CallFix p m c cX10_sweepLine 6 s args wsX10_sweepLine RX10) (G : GT) (hK : gK G s) (hA : ∀ q : Nat, H0.size ≤ q → A0 q) (q_t q_t_z q_t_old q_t_past q_t_kept q_t_text q_t_order q_t_told q_t_rowsTaken q_t_columnsTaken q_t_ways q_t_scaled q_t_rowFactors q_t_columnFactors q_t_rest q_t_diagonals q_t_weights : Nat) (x1 : Int32) (x2 : Int32) (x3 : UInt64) (t_states : Int32) (t_isKept : Int32) (t_length : Int32) (t_spot : Int32) (t_toldRows : Int32) (t_z : Nat → Int32) (t_rowFactors : Nat → UInt64) (t_columnFactors : Nat → UInt64) (E_t_scaled : Nat → UInt64) (K : ∀ (H : Heap) (locs : List Loc) (ls : Array Slot), va_P G.1 vwCl [(q_t, .inr (9, [.ref q_t_z, .ref q_t_old, .ref q_t_past, .int t_states, .ref q_t_kept, .int t_isKept, .ref q_t_text, .int t_length, .ref q_t_order, .ref q_t_told, .int t_spot, .int t_toldRows, .ref q_t_rowsTaken, .ref q_t_columnsTaken, .ref q_t_ways, .ref q_t_scaled, .ref q_t_rowFactors, .ref q_t_columnFactors, .ref q_t_rest, .ref q_t_diagonals, .ref q_t_weights])), (q_t_z, .inl (G.2 0, 50, .inl t_z)), (q_t_scaled, .inl (G.2 2, 49, .inr (.inr (.inr (.inl E_t_scaled))))), (q_t_rowFactors, .inl (G.2 2, 7, .inr (.inr (.inr (.inl t_rowFactors))))), (q_t_columnFactors, .inl (G.2 2, 7, .inr (.inr (.inr (.inl t_columnFactors)))))] H → va_D A0 [(q_t, .inr (9, [.ref q_t_z, .ref q_t_old, .ref q_t_past, .int t_states, .ref q_t_kept, .int t_isKept, .ref q_t_text, .int t_length, .ref q_t_order, .ref q_t_told, .int t_spot, .int t_toldRows, .ref q_t_rowsTaken, .ref q_t_columnsTaken, .ref q_t_ways, .ref q_t_scaled, .ref q_t_rowFactors, .ref q_t_columnFactors, .ref q_t_rest, .ref q_t_diagonals, .ref q_t_weights])), (q_t_z, .inl (G.2 0, 50, .inl t_z)), (q_t_scaled, .inl (G.2 2, 49, .inr (.inr (.inr (.inl E_t_scaled))))), (q_t_rowFactors, .inl (G.2 2, 7, .inr (.inr (.inr (.inl t_rowFactors))))), (q_t_columnFactors, .inl (G.2 2, 7, .inr (.inr (.inr (.inl t_columnFactors)))))] → va_S A0 H0 H locs → lv_has ls 6 [(0, .ref q_t), (1, .int x1), (2, .int x2), (3, .double x3)] → W p l e ({ frames := 1, cells := 0, slots := 0, locals := 25 } : Room) s m args below meth c H locs 0 0 Q (F0 m 58 ls [])) : ∀ (n : Nat) (x5 : Int32) (t_scaled : Nat → UInt64), lpN (f_X10_sweepLine_L1 x1 x2 x3 t_z) n (x5, t_scaled) = some E_t_scaled → ∀ (H : Heap) (locs : List Loc) (ls : Array Slot), va_P G.1 vwCl [(q_t, .inr (9, [.ref q_t_z, .ref q_t_old, .ref q_t_past, .int t_states, .ref q_t_kept, .int t_isKept, .ref q_t_text, .int t_length, .ref q_t_order, .ref q_t_told, .int t_spot, .int t_toldRows, .ref q_t_rowsTaken, .ref q_t_columnsTaken, .ref q_t_ways, .ref q_t_scaled, .ref q_t_rowFactors, .ref q_t_columnFactors, .ref q_t_rest, .ref q_t_diagonals, .ref q_t_weights])), (q_t_z, .inl (G.2 0, 50, .inl t_z)), (q_t_scaled, .inl (G.2 2, 49, .inr (.inr (.inr (.inl t_scaled))))), (q_t_rowFactors, .inl (G.2 2, 7, .inr (.inr (.inr (.inl t_rowFactors))))), (q_t_columnFactors, .inl (G.2 2, 7, .inr (.inr (.inr (.inl t_columnFactors)))))] H → va_D A0 [(q_t, .inr (9, [.ref q_t_z, .ref q_t_old, .ref q_t_past, .int t_states, .ref q_t_kept, .int t_isKept, .ref q_t_text, .int t_length, .ref q_t_order, .ref q_t_told, .int t_spot, .int t_toldRows, .ref q_t_rowsTaken, .ref q_t_columnsTaken, .ref q_t_ways, .ref q_t_scaled, .ref q_t_rowFactors, .ref q_t_columnFactors, .ref q_t_rest, .ref q_t_diagonals, .ref q_t_weights])), (q_t_z, .inl (G.2 0, 50, .inl t_z)), (q_t_scaled, .inl (G.2 2, 49, .inr (.inr (.inr (.inl t_scaled))))), (q_t_rowFactors, .inl (G.2 2, 7, .inr (.inr (.inr (.inl t_rowFactors))))), (q_t_columnFactors, .inl (G.2 2, 7, .inr (.inr (.inr (.inl t_columnFactors)))))] → va_S A0 H0 H locs → lv_has ls 6 [(0, .ref q_t), (1, .int x1), (2, .int x2), (3, .double x3), (5, .int x5)] → W p l e ({ frames := 1, cells := 0, slots := 0, locals := 25 } : Room) s m args below meth c H locs 0 0 Q (F0 m 10 ls []) := by
  obtain ⟨hx, hb, hml, hown, hts⟩ := C
  intro n
  induction n with
  | zero => intro x5 t_scaled h; exact absurd h (fun h => lp_0 h)
  | succ n ih =>
    intro x5 t_scaled h H locs ls hP hD hS hl
    obtain ⟨y, h, hk⟩ := lp_s h
    rw [f_X10_sweepLine_L1] at h
    refine lv_iload hx hb dX10_sweepLine_10 (lv_at hl 4 rfl) ?_
    refine lv_aload_n hx hb dX10_sweepLine_12 rfl (lv_at hl 0 rfl) ?_
    refine va_get (D := G.1) (ci := 9) (v := .ref q_t_z) (C := RX10) (T := TX10) (N := 21) hx hb hts wi_X10_sweepLine_X10 hown hK hP 0 rfl rfl 0 (by decide) (hts _ wd_X10_sweepLine_1) (fun _ h9 => h9) rfl dX10_sweepLine_13 ?_
    refine lv_bipush (v := 49) hx hb dX10_sweepLine_16 (by decide) ?_
    obtain ⟨g_3, h⟩ := gd_ok h
    refine va_iald (D := G.1) hx hb hK hP 1 0 rfl rfl g_3 dX10_sweepLine_18 ?_
    refine lv_icmp_ge (tgt := 58) hx hb dX10_sweepLine_19 (by decide) (fun c_4 => ?_) (fun c_4 => ?_)
    · replace h := it_t h c_4
      obtain rfl := sm1 h
      obtain rfl := sm1 hk
      exact K H locs ls hP hD hS (lv_sub hl [0, 1, 2, 3] rfl)
    · replace h := it_f h c_4
      refine lv_aload_n hx hb dX10_sweepLine_22 rfl (lv_at hl 0 rfl) ?_
      refine va_get (D := G.1) (ci := 9) (v := .ref q_t_scaled) (C := RX10) (T := TX10) (N := 21) hx hb hts wi_X10_sweepLine_X10 hown hK hP 0 rfl rfl 15 (by decide) (hts _ wd_X10_sweepLine_2) (fun _ h9 => h9) rfl dX10_sweepLine_23 ?_
      refine lv_iload_n hx hb dX10_sweepLine_26 rfl (lv_at hl 2 rfl) ?_
      obtain ⟨y_6, hr, h⟩ := bd_ok h
      have J : ∀ (H : Heap) (locs : List Loc) (ls : Array Slot), va_P G.1 vwCl [(q_t, .inr (9, [.ref q_t_z, .ref q_t_old, .ref q_t_past, .int t_states, .ref q_t_kept, .int t_isKept, .ref q_t_text, .int t_length, .ref q_t_order, .ref q_t_told, .int t_spot, .int t_toldRows, .ref q_t_rowsTaken, .ref q_t_columnsTaken, .ref q_t_ways, .ref q_t_scaled, .ref q_t_rowFactors, .ref q_t_columnFactors, .ref q_t_rest, .ref q_t_diagonals, .ref q_t_weights])), (q_t_z, .inl (G.2 0, 50, .inl t_z)), (q_t_scaled, .inl (G.2 2, 49, .inr (.inr (.inr (.inl t_scaled))))), (q_t_rowFactors, .inl (G.2 2, 7, .inr (.inr (.inr (.inl t_rowFactors))))), (q_t_columnFactors, .inl (G.2 2, 7, .inr (.inr (.inr (.inl t_columnFactors)))))] H → va_D A0 [(q_t, .inr (9, [.ref q_t_z, .ref q_t_old, .ref q_t_past, .int t_states, .ref q_t_kept, .int t_isKept, .ref q_t_text, .int t_length, .ref q_t_order, .ref q_t_told, .int t_spot, .int t_toldRows, .ref q_t_rowsTaken, .ref q_t_columnsTaken, .ref q_t_ways, .ref q_t_scaled, .ref q_t_rowFactors, .ref q_t_columnFactors, .ref q_t_rest, .ref q_t_diagonals, .ref q_t_weights])), (q_t_z, .inl (G.2 0, 50, .inl t_z)), (q_t_scaled, .inl (G.2 2, 49, .inr (.inr (.inr (.inl t_scaled))))), (q_t_rowFactors, .inl (G.2 2, 7, .inr (.inr (.inr (.inl t_rowFactors))))), (q_t_columnFactors, .inl (G.2 2, 7, .inr (.inr (.inr (.inl t_columnFactors)))))] → va_S A0 H0 H locs → lv_has ls 6 [(0, .ref q_t), (1, .int x1), (2, .int x2), (3, .double x3), (5, .int x5)] → W p l e ({ frames := 1, cells := 0, slots := 0, locals := 25 } : Room) s m args below meth c H locs 0 0 Q (F0 m 47 ls [.int y_6, .ref q_t_scaled]) := by
        intro H locs ls hP hD hS hl
        refine lv_dup2_11 hx hb dX10_sweepLine_47 rfl rfl ?_
        obtain ⟨g_7, h⟩ := gd_ok h
        refine va_dald (D := G.1) hx hb hK hP 2 2 rfl rfl g_7 dX10_sweepLine_48 ?_
        refine lv_dload_n hx hb dX10_sweepLine_49 rfl (lv_at hl 3 rfl) ?_
        obtain ⟨g_8, h⟩ := gd_ok h
        refine lv_ddiv hx hb dX10_sweepLine_50 g_8 ?_
        obtain ⟨g_9, h⟩ := gd_ok h
        obtain ⟨t_scaled_10, et_scaled_10, h⟩ := pl_ok h
        refine st_d (D := G.1) (wn := [(q_t, .inr (9, [.ref q_t_z, .ref q_t_old, .ref q_t_past, .int t_states, .ref q_t_kept, .int t_isKept, .ref q_t_text, .int t_length, .ref q_t_order, .ref q_t_told, .int t_spot, .int t_toldRows, .ref q_t_rowsTaken, .ref q_t_columnsTaken, .ref q_t_ways, .ref q_t_scaled, .ref q_t_rowFactors, .ref q_t_columnFactors, .ref q_t_rest, .ref q_t_diagonals, .ref q_t_weights])), (q_t_z, .inl (G.2 0, 50, .inl t_z)), (q_t_scaled, .inl (G.2 2, 49, .inr (.inr (.inr (.inl t_scaled_10))))), (q_t_rowFactors, .inl (G.2 2, 7, .inr (.inr (.inr (.inl t_rowFactors))))), (q_t_columnFactors, .inl (G.2 2, 7, .inr (.inr (.inr (.inl t_columnFactors)))))]) hx hb hK hP hD hS 2 2 rfl rfl g_9 dX10_sweepLine_51 et_scaled_10 rfl (fun H locs hP hD hS => ?_)
        obtain ⟨x5_11, ex5_11, h⟩ := pl_ok h
        refine lv_iinc (v := x5_11) (lv' := [(5, .int x5_11), (0, .ref q_t), (1, .int x1), (2, .int x2), (3, .double x3)]) hx hb dX10_sweepLine_52 hl (k := 4) rfl (by rw [ex5_11]; rfl) (by decide) rfl (fun ls hl => ?_)
        refine lv_goto (tgt := 10) hx hb dX10_sweepLine_55 (by decide) ?_
        obtain rfl := sm1 h
        exact ih x5_11 t_scaled_10 hk H locs ls hP hD hS (lv_sub hl [1, 2, 3, 4, 0] rfl)
      replace h := hr
      clear hr
      refine lv_if_eq (tgt := 40) hx hb dX10_sweepLine_27 (by decide) (fun c_5 => ?_) (fun c_5 => ?_)
      · replace h := it_t h c_5
        refine lv_bipush (v := 7) hx hb dX10_sweepLine_40 (by decide) ?_
        refine lv_iload_n hx hb dX10_sweepLine_42 rfl (lv_at hl 1 rfl) ?_
        refine lv_imul hx hb dX10_sweepLine_43 ?_
        refine lv_iload hx hb dX10_sweepLine_44 (lv_at hl 4 rfl) ?_
        refine lv_iadd hx hb dX10_sweepLine_46 ?_
        obtain rfl := sm1 h
        exact J H locs ls hP hD hS (lv_sub hl [0, 1, 2, 3, 4] rfl)
      · replace h := it_f h c_5
        refine lv_bipush (v := 7) hx hb dX10_sweepLine_30 (by decide) ?_
        refine lv_iload hx hb dX10_sweepLine_32 (lv_at hl 4 rfl) ?_
        refine lv_imul hx hb dX10_sweepLine_34 ?_
        refine lv_iload_n hx hb dX10_sweepLine_35 rfl (lv_at hl 1 rfl) ?_
        refine lv_iadd hx hb dX10_sweepLine_36 ?_
        refine lv_goto (tgt := 47) hx hb dX10_sweepLine_37 (by decide) ?_
        obtain rfl := sm1 h
        exact J H locs ls hP hD hS (lv_sub hl [0, 1, 2, 3, 4] rfl)
set_option maxHeartbeats 4000000 in
set_option maxRecDepth 100000 in
theorem k_X10_sweepLine {p : Program} {l : Launch} {e : Env} {s : State} {m : MethodId} {args : Array Value} {below : List Frame} {meth : Method} {c : Code} {Q : State → Prop} {A0 : Nat → Prop} {H0 : Heap} (C : CallFix p m c cX10_sweepLine 6 s args wsX10_sweepLine RX10) (G : GT) (hK : gK G s) (hA : ∀ q : Nat, H0.size ≤ q → A0 q) (q_t q_t_z q_t_old q_t_past q_t_kept q_t_text q_t_order q_t_told q_t_rowsTaken q_t_columnsTaken q_t_ways q_t_scaled q_t_rowFactors q_t_columnFactors q_t_rest q_t_diagonals q_t_weights : Nat) (t_states : Int32) (t_isKept : Int32) (t_length : Int32) (t_spot : Int32) (t_toldRows : Int32) (t_z : Nat → Int32) (t_scaled : Nat → UInt64) (t_rowFactors : Nat → UInt64) (t_columnFactors : Nat → UInt64) (a1 : Int32) (a2 : Int32) (o_t_scaled : Nat → UInt64) (o_t_rowFactors : Nat → UInt64) (o_t_columnFactors : Nat → UInt64) (h : f_X10_sweepLine t_z t_scaled t_rowFactors t_columnFactors a1 a2 = some (o_t_scaled, o_t_rowFactors, o_t_columnFactors)) (KR : ∀ (H : Heap) (locs : List Loc) (ls : Array Slot) (pc : Nat), decode cX10_sweepLine pc = .ok (.return_, 1) → va_P G.1 vwCl [(q_t, .inr (9, [.ref q_t_z, .ref q_t_old, .ref q_t_past, .int t_states, .ref q_t_kept, .int t_isKept, .ref q_t_text, .int t_length, .ref q_t_order, .ref q_t_told, .int t_spot, .int t_toldRows, .ref q_t_rowsTaken, .ref q_t_columnsTaken, .ref q_t_ways, .ref q_t_scaled, .ref q_t_rowFactors, .ref q_t_columnFactors, .ref q_t_rest, .ref q_t_diagonals, .ref q_t_weights])), (q_t_z, .inl (G.2 0, 50, .inl t_z)), (q_t_scaled, .inl (G.2 2, 49, .inr (.inr (.inr (.inl o_t_scaled))))), (q_t_rowFactors, .inl (G.2 2, 7, .inr (.inr (.inr (.inl o_t_rowFactors))))), (q_t_columnFactors, .inl (G.2 2, 7, .inr (.inr (.inr (.inl o_t_columnFactors)))))] H → va_D A0 [(q_t, .inr (9, [.ref q_t_z, .ref q_t_old, .ref q_t_past, .int t_states, .ref q_t_kept, .int t_isKept, .ref q_t_text, .int t_length, .ref q_t_order, .ref q_t_told, .int t_spot, .int t_toldRows, .ref q_t_rowsTaken, .ref q_t_columnsTaken, .ref q_t_ways, .ref q_t_scaled, .ref q_t_rowFactors, .ref q_t_columnFactors, .ref q_t_rest, .ref q_t_diagonals, .ref q_t_weights])), (q_t_z, .inl (G.2 0, 50, .inl t_z)), (q_t_scaled, .inl (G.2 2, 49, .inr (.inr (.inr (.inl o_t_scaled))))), (q_t_rowFactors, .inl (G.2 2, 7, .inr (.inr (.inr (.inl o_t_rowFactors))))), (q_t_columnFactors, .inl (G.2 2, 7, .inr (.inr (.inr (.inl o_t_columnFactors)))))] → va_S A0 H0 H locs → W p l e ({ frames := 1, cells := 0, slots := 0, locals := 25 } : Room) s m args below meth c H locs 0 0 Q (F0 m pc ls [])) : ∀ (H : Heap) (locs : List Loc) (ls : Array Slot), va_P G.1 vwCl [(q_t, .inr (9, [.ref q_t_z, .ref q_t_old, .ref q_t_past, .int t_states, .ref q_t_kept, .int t_isKept, .ref q_t_text, .int t_length, .ref q_t_order, .ref q_t_told, .int t_spot, .int t_toldRows, .ref q_t_rowsTaken, .ref q_t_columnsTaken, .ref q_t_ways, .ref q_t_scaled, .ref q_t_rowFactors, .ref q_t_columnFactors, .ref q_t_rest, .ref q_t_diagonals, .ref q_t_weights])), (q_t_z, .inl (G.2 0, 50, .inl t_z)), (q_t_scaled, .inl (G.2 2, 49, .inr (.inr (.inr (.inl t_scaled))))), (q_t_rowFactors, .inl (G.2 2, 7, .inr (.inr (.inr (.inl t_rowFactors))))), (q_t_columnFactors, .inl (G.2 2, 7, .inr (.inr (.inr (.inl t_columnFactors)))))] H → va_D A0 [(q_t, .inr (9, [.ref q_t_z, .ref q_t_old, .ref q_t_past, .int t_states, .ref q_t_kept, .int t_isKept, .ref q_t_text, .int t_length, .ref q_t_order, .ref q_t_told, .int t_spot, .int t_toldRows, .ref q_t_rowsTaken, .ref q_t_columnsTaken, .ref q_t_ways, .ref q_t_scaled, .ref q_t_rowFactors, .ref q_t_columnFactors, .ref q_t_rest, .ref q_t_diagonals, .ref q_t_weights])), (q_t_z, .inl (G.2 0, 50, .inl t_z)), (q_t_scaled, .inl (G.2 2, 49, .inr (.inr (.inr (.inl t_scaled))))), (q_t_rowFactors, .inl (G.2 2, 7, .inr (.inr (.inr (.inl t_rowFactors))))), (q_t_columnFactors, .inl (G.2 2, 7, .inr (.inr (.inr (.inl t_columnFactors)))))] → va_S A0 H0 H locs → lv_has ls 6 [(0, .ref q_t), (1, .int a1), (2, .int a2)] → W p l e ({ frames := 1, cells := 0, slots := 0, locals := 25 } : Room) s m args below meth c H locs 0 0 Q (F0 m 0 ls []) := by
  obtain ⟨hx, hb, hml, hown, hts⟩ := C
  intro H locs ls hP hD hS hl
  rw [f_X10_sweepLine] at h
  refine lv_aload_n hx hb dX10_sweepLine_0 rfl (lv_at hl 0 rfl) ?_
  refine lv_iload_n hx hb dX10_sweepLine_1 rfl (lv_at hl 1 rfl) ?_
  refine lv_iload_n hx hb dX10_sweepLine_2 rfl (lv_at hl 2 rfl) ?_
  obtain ⟨r_1, hf_2, h⟩ := bd_ok h
  refine ck_Vd (rest := []) (wn := [(q_t, .inr (9, [.ref q_t_z, .ref q_t_old, .ref q_t_past, .int t_states, .ref q_t_kept, .int t_isKept, .ref q_t_text, .int t_length, .ref q_t_order, .ref q_t_told, .int t_spot, .int t_toldRows, .ref q_t_rowsTaken, .ref q_t_columnsTaken, .ref q_t_ways, .ref q_t_scaled, .ref q_t_rowFactors, .ref q_t_columnFactors, .ref q_t_rest, .ref q_t_diagonals, .ref q_t_weights])), (q_t_z, .inl (G.2 0, 50, .inl t_z)), (q_t_scaled, .inl (G.2 2, 49, .inr (.inr (.inr (.inl t_scaled))))), (q_t_rowFactors, .inl (G.2 2, 7, .inr (.inr (.inr (.inl t_rowFactors))))), (q_t_columnFactors, .inl (G.2 2, 7, .inr (.inr (.inr (.inl t_columnFactors)))))]) ⟨hx, hb, hml, hown, hts⟩ hK hP hD hS hA [0, 1, 2] [3, 4] [2, 3, 4, 0, 1] (c_X10_scaledSum l G q_t q_t_z q_t_old q_t_past q_t_kept q_t_text q_t_order q_t_told q_t_rowsTaken q_t_columnsTaken q_t_ways q_t_scaled q_t_rowFactors q_t_columnFactors q_t_rest q_t_diagonals q_t_weights _ t_states t_isKept t_length t_spot t_toldRows t_z t_scaled a1 a2 _ hf_2) (cwV 2 hts gX10_sweepLine_X10_scaledSum rfl rfl rfl (by decide +kernel) ⟨Nat.le_of_ble_eq_true rfl, Nat.le_of_ble_eq_true rfl⟩) rfl rfl rfl rfl rfl rfl (by decide) rfl rfl rfl hl.1 rfl (Nat.le_of_ble_eq_true rfl) dX10_sweepLine_3 ⟨Nat.zero_le _, Nat.zero_le _⟩ (fun H locs hP hD hS => ?_)
  refine lv_dstore_n (lv' := [(3, .double r_1), (0, .ref q_t), (1, .int a1), (2, .int a2)]) hx hb dX10_sweepLine_6 rfl hl (by decide) rfl (fun ls hl => ?_)
  refine lv_iconst (v := 0) hx hb dX10_sweepLine_7 (by decide) ?_
  refine lv_istore (lv' := [(5, .int (0 : Int32)), (3, .double r_1), (0, .ref q_t), (1, .int a1), (2, .int a2)]) hx hb dX10_sweepLine_8 hl (by decide) rfl (fun ls hl => ?_)
  obtain ⟨t_scaled_12, hz_14, h⟩ := bd_ok h
  refine l_X10_sweepLine_1 ⟨hx, hb, hml, hown, hts⟩ G hK hA q_t q_t_z q_t_old q_t_past q_t_kept q_t_text q_t_order q_t_told q_t_rowsTaken q_t_columnsTaken q_t_ways q_t_scaled q_t_rowFactors q_t_columnFactors q_t_rest q_t_diagonals q_t_weights a1 a2 r_1 t_states t_isKept t_length t_spot t_toldRows t_z t_rowFactors t_columnFactors t_scaled_12 ?_ FU (0 : Int32) t_scaled hz_14 H locs ls hP hD hS (lv_sub hl [2, 3, 4, 1, 0] rfl)
  intro H locs ls hP hD hS hl
  refine lv_iload_n hx hb dX10_sweepLine_58 rfl (lv_at hl 2 rfl) ?_
  refine lv_if_eq (tgt := 75) hx hb dX10_sweepLine_59 (by decide) (fun c_15 => ?_) (fun c_15 => ?_)
  · replace h := it_t h c_15
    refine lv_aload_n hx hb dX10_sweepLine_75 rfl (lv_at hl 0 rfl) ?_
    refine va_get (D := G.1) (ci := 9) (v := .ref q_t_rowFactors) (C := RX10) (T := TX10) (N := 21) hx hb hts wi_X10_sweepLine_X10 hown hK hP 0 rfl rfl 16 (by decide) (hts _ wd_X10_sweepLine_4) (fun _ h9 => h9) rfl dX10_sweepLine_76 ?_
    refine lv_iload_n hx hb dX10_sweepLine_79 rfl (lv_at hl 1 rfl) ?_
    refine lv_dup2_11 hx hb dX10_sweepLine_80 rfl rfl ?_
    obtain ⟨g_16, h⟩ := gd_ok h
    refine va_dald (D := G.1) hx hb hK hP 3 2 rfl rfl g_16 dX10_sweepLine_81 ?_
    refine lv_dload_n hx hb dX10_sweepLine_82 rfl (lv_at hl 3 rfl) ?_
    obtain ⟨g_17, h⟩ := gd_ok h
    refine lv_dmul hx hb dX10_sweepLine_83 g_17 ?_
    obtain ⟨g_18, h⟩ := gd_ok h
    obtain ⟨t_rowFactors_19, et_rowFactors_19, h⟩ := pl_ok h
    refine st_d (D := G.1) (wn := [(q_t, .inr (9, [.ref q_t_z, .ref q_t_old, .ref q_t_past, .int t_states, .ref q_t_kept, .int t_isKept, .ref q_t_text, .int t_length, .ref q_t_order, .ref q_t_told, .int t_spot, .int t_toldRows, .ref q_t_rowsTaken, .ref q_t_columnsTaken, .ref q_t_ways, .ref q_t_scaled, .ref q_t_rowFactors, .ref q_t_columnFactors, .ref q_t_rest, .ref q_t_diagonals, .ref q_t_weights])), (q_t_z, .inl (G.2 0, 50, .inl t_z)), (q_t_scaled, .inl (G.2 2, 49, .inr (.inr (.inr (.inl t_scaled_12))))), (q_t_rowFactors, .inl (G.2 2, 7, .inr (.inr (.inr (.inl t_rowFactors_19))))), (q_t_columnFactors, .inl (G.2 2, 7, .inr (.inr (.inr (.inl t_columnFactors)))))]) hx hb hK hP hD hS 3 2 rfl rfl g_18 dX10_sweepLine_84 et_rowFactors_19 rfl (fun H locs hP hD hS => ?_)
    obtain ⟨rfl, rfl, rfl⟩ := sm3 h
    exact KR H locs ls 85 dX10_sweepLine_85 hP hD hS
  · replace h := it_f h c_15
    refine lv_aload_n hx hb dX10_sweepLine_62 rfl (lv_at hl 0 rfl) ?_
    refine va_get (D := G.1) (ci := 9) (v := .ref q_t_columnFactors) (C := RX10) (T := TX10) (N := 21) hx hb hts wi_X10_sweepLine_X10 hown hK hP 0 rfl rfl 17 (by decide) (hts _ wd_X10_sweepLine_3) (fun _ h9 => h9) rfl dX10_sweepLine_63 ?_
    refine lv_iload_n hx hb dX10_sweepLine_66 rfl (lv_at hl 1 rfl) ?_
    refine lv_dup2_11 hx hb dX10_sweepLine_67 rfl rfl ?_
    obtain ⟨g_20, h⟩ := gd_ok h
    refine va_dald (D := G.1) hx hb hK hP 4 2 rfl rfl g_20 dX10_sweepLine_68 ?_
    refine lv_dload_n hx hb dX10_sweepLine_69 rfl (lv_at hl 3 rfl) ?_
    obtain ⟨g_21, h⟩ := gd_ok h
    refine lv_dmul hx hb dX10_sweepLine_70 g_21 ?_
    obtain ⟨g_22, h⟩ := gd_ok h
    obtain ⟨t_columnFactors_23, et_columnFactors_23, h⟩ := pl_ok h
    refine st_d (D := G.1) (wn := [(q_t, .inr (9, [.ref q_t_z, .ref q_t_old, .ref q_t_past, .int t_states, .ref q_t_kept, .int t_isKept, .ref q_t_text, .int t_length, .ref q_t_order, .ref q_t_told, .int t_spot, .int t_toldRows, .ref q_t_rowsTaken, .ref q_t_columnsTaken, .ref q_t_ways, .ref q_t_scaled, .ref q_t_rowFactors, .ref q_t_columnFactors, .ref q_t_rest, .ref q_t_diagonals, .ref q_t_weights])), (q_t_z, .inl (G.2 0, 50, .inl t_z)), (q_t_scaled, .inl (G.2 2, 49, .inr (.inr (.inr (.inl t_scaled_12))))), (q_t_rowFactors, .inl (G.2 2, 7, .inr (.inr (.inr (.inl t_rowFactors))))), (q_t_columnFactors, .inl (G.2 2, 7, .inr (.inr (.inr (.inl t_columnFactors_23)))))]) hx hb hK hP hD hS 4 2 rfl rfl g_22 dX10_sweepLine_71 et_columnFactors_23 rfl (fun H locs hP hD hS => ?_)
    refine lv_goto (tgt := 85) hx hb dX10_sweepLine_72 (by decide) ?_
    obtain ⟨rfl, rfl, rfl⟩ := sm3 h
    exact KR H locs ls 85 dX10_sweepLine_85 hP hD hS
set_option maxHeartbeats 4000000 in
set_option maxRecDepth 100000 in
theorem c_X10_sweepLine (l : Launch) (G : GT) (q_t q_t_z q_t_old q_t_past q_t_kept q_t_text q_t_order q_t_told q_t_rowsTaken q_t_columnsTaken q_t_ways q_t_scaled q_t_rowFactors q_t_columnFactors q_t_rest q_t_diagonals q_t_weights : Nat) (sz : Nat) (t_states : Int32) (t_isKept : Int32) (t_length : Int32) (t_spot : Int32) (t_toldRows : Int32) (t_z : Nat → Int32) (t_scaled : Nat → UInt64) (t_rowFactors : Nat → UInt64) (t_columnFactors : Nat → UInt64) (a1 : Int32) (a2 : Int32) (o_t_scaled : Nat → UInt64) (o_t_rowFactors : Nat → UInt64) (o_t_columnFactors : Nat → UInt64) (h : f_X10_sweepLine t_z t_scaled t_rowFactors t_columnFactors a1 a2 = some (o_t_scaled, o_t_rowFactors, o_t_columnFactors)) : Met l yX10_sweepLine wsX10_sweepLine ({ frames := 1, cells := 0, slots := 0, locals := 25 } : Room) (va_Pc [.ref q_t, .int a1, .int a2] (pcW G [(q_t, .inr (9, [.ref q_t_z, .ref q_t_old, .ref q_t_past, .int t_states, .ref q_t_kept, .int t_isKept, .ref q_t_text, .int t_length, .ref q_t_order, .ref q_t_told, .int t_spot, .int t_toldRows, .ref q_t_rowsTaken, .ref q_t_columnsTaken, .ref q_t_ways, .ref q_t_scaled, .ref q_t_rowFactors, .ref q_t_columnFactors, .ref q_t_rest, .ref q_t_diagonals, .ref q_t_weights])), (q_t_z, .inl (G.2 0, 50, .inl t_z)), (q_t_scaled, .inl (G.2 2, 49, .inr (.inr (.inr (.inl t_scaled))))), (q_t_rowFactors, .inl (G.2 2, 7, .inr (.inr (.inr (.inl t_rowFactors))))), (q_t_columnFactors, .inl (G.2 2, 7, .inr (.inr (.inr (.inl t_columnFactors)))))] sz)) (va_Qv (fun (_ : Unit) => True) (fun _ t => atW G (va_A [(q_t, .inr (9, [.ref q_t_z, .ref q_t_old, .ref q_t_past, .int t_states, .ref q_t_kept, .int t_isKept, .ref q_t_text, .int t_length, .ref q_t_order, .ref q_t_told, .int t_spot, .int t_toldRows, .ref q_t_rowsTaken, .ref q_t_columnsTaken, .ref q_t_ways, .ref q_t_scaled, .ref q_t_rowFactors, .ref q_t_columnFactors, .ref q_t_rest, .ref q_t_diagonals, .ref q_t_weights])), (q_t_z, .inl (G.2 0, 50, .inl t_z)), (q_t_scaled, .inl (G.2 2, 49, .inr (.inr (.inr (.inl t_scaled))))), (q_t_rowFactors, .inl (G.2 2, 7, .inr (.inr (.inr (.inl t_rowFactors))))), (q_t_columnFactors, .inl (G.2 2, 7, .inr (.inr (.inr (.inl t_columnFactors)))))] sz) [(q_t, .inr (9, [.ref q_t_z, .ref q_t_old, .ref q_t_past, .int t_states, .ref q_t_kept, .int t_isKept, .ref q_t_text, .int t_length, .ref q_t_order, .ref q_t_told, .int t_spot, .int t_toldRows, .ref q_t_rowsTaken, .ref q_t_columnsTaken, .ref q_t_ways, .ref q_t_scaled, .ref q_t_rowFactors, .ref q_t_columnFactors, .ref q_t_rest, .ref q_t_diagonals, .ref q_t_weights])), (q_t_z, .inl (G.2 0, 50, .inl t_z)), (q_t_scaled, .inl (G.2 2, 49, .inr (.inr (.inr (.inl o_t_scaled))))), (q_t_rowFactors, .inl (G.2 2, 7, .inr (.inr (.inr (.inl o_t_rowFactors))))), (q_t_columnFactors, .inl (G.2 2, 7, .inr (.inr (.inr (.inl o_t_columnFactors)))))] t) (va_A [(q_t, .inr (9, [.ref q_t_z, .ref q_t_old, .ref q_t_past, .int t_states, .ref q_t_kept, .int t_isKept, .ref q_t_text, .int t_length, .ref q_t_order, .ref q_t_told, .int t_spot, .int t_toldRows, .ref q_t_rowsTaken, .ref q_t_columnsTaken, .ref q_t_ways, .ref q_t_scaled, .ref q_t_rowFactors, .ref q_t_columnFactors, .ref q_t_rest, .ref q_t_diagonals, .ref q_t_weights])), (q_t_z, .inl (G.2 0, 50, .inl t_z)), (q_t_scaled, .inl (G.2 2, 49, .inr (.inr (.inr (.inl t_scaled))))), (q_t_rowFactors, .inl (G.2 2, 7, .inr (.inr (.inr (.inl t_rowFactors))))), (q_t_columnFactors, .inl (G.2 2, 7, .inr (.inr (.inr (.inl t_columnFactors)))))] sz)) 0 0 (va_A [(q_t, .inr (9, [.ref q_t_z, .ref q_t_old, .ref q_t_past, .int t_states, .ref q_t_kept, .int t_isKept, .ref q_t_text, .int t_length, .ref q_t_order, .ref q_t_told, .int t_spot, .int t_toldRows, .ref q_t_rowsTaken, .ref q_t_columnsTaken, .ref q_t_ways, .ref q_t_scaled, .ref q_t_rowFactors, .ref q_t_columnFactors, .ref q_t_rest, .ref q_t_diagonals, .ref q_t_weights])), (q_t_z, .inl (G.2 0, 50, .inl t_z)), (q_t_scaled, .inl (G.2 2, 49, .inr (.inr (.inr (.inl t_scaled))))), (q_t_rowFactors, .inl (G.2 2, 7, .inr (.inr (.inr (.inl t_rowFactors))))), (q_t_columnFactors, .inl (G.2 2, 7, .inr (.inr (.inr (.inl t_columnFactors)))))] sz) := by
  refine Met.ofW (cc := cX10_sweepLine) (maxL := 6) (ret := none) (by decide) rfl ?_
  intro p e s m args below meth c s₁ B hml hv
  obtain ⟨rfl, hsz, hP, hK, hD0⟩ := hv
  subst hsz
  have hD := hD0.self (sz := s.heap.size)
  generalize hAe : va_A [(q_t, .inr (9, [.ref q_t_z, .ref q_t_old, .ref q_t_past, .int t_states, .ref q_t_kept, .int t_isKept, .ref q_t_text, .int t_length, .ref q_t_order, .ref q_t_told, .int t_spot, .int t_toldRows, .ref q_t_rowsTaken, .ref q_t_columnsTaken, .ref q_t_ways, .ref q_t_scaled, .ref q_t_rowFactors, .ref q_t_columnFactors, .ref q_t_rest, .ref q_t_diagonals, .ref q_t_weights])), (q_t_z, .inl (G.2 0, 50, .inl t_z)), (q_t_scaled, .inl (G.2 2, 49, .inr (.inr (.inr (.inl t_scaled))))), (q_t_rowFactors, .inl (G.2 2, 7, .inr (.inr (.inr (.inl t_rowFactors))))), (q_t_columnFactors, .inl (G.2 2, 7, .inr (.inr (.inr (.inl t_columnFactors)))))] s.heap.size = A at hD ⊢
  have hA : ∀ q : Nat, s.heap.size ≤ q → A q := fun q h => by rw [← hAe]; exact Or.inr h
  have hl := lv_entry ([.ref q_t, .int a1, .int a2]) (n := 6) (Nat.le_of_ble_eq_true rfl)
  rw [lg_entry_eq]
  refine k_X10_sweepLine ⟨B.exec, B.bytes, hml, findClass_of_methodNamed B.named, atoms_spec (ws := wsX10_sweepLine) B.pre⟩ G hK hA q_t q_t_z q_t_old q_t_past q_t_kept q_t_text q_t_order q_t_told q_t_rowsTaken q_t_columnsTaken q_t_ways q_t_scaled q_t_rowFactors q_t_columnFactors q_t_rest q_t_diagonals q_t_weights _ _ _ _ _ _ _ _ _ _ _ _ _ _ h ?_ _ _ _ hP hD va_S.rf hl
  intro H locs ls pc hd hP hD hS
  exact W.vret B.exec B.bytes B.returns (fun t ht hW => ⟨⟨(), rfl, trivial, by rw [ht]; exact hP, hD⟩, hS.F ht⟩) hS.2.2 hd B.notSynchronized
set_option maxRecDepth 20000 in
theorem wd_X10_sweep_1 : Cond.fieldLink RX10 40 "PermanentDeskModel" "scaled" "[D" ∈ wsX10_sweep := List.mem_of_getElem? (i := 1) (by decide +kernel)
set_option maxRecDepth 20000 in
theorem wi_X10_sweep_X10 : ∀ w ∈ u_ws RX10 TX10 21, w ∈ wsX10_sweep := by decide +kernel
set_option maxRecDepth 20000 in
theorem wd_X10_sweep_2 : Cond.fieldLink RX10 7 "PermanentDeskModel" "z" "[I" ∈ wsX10_sweep := List.mem_of_getElem? (i := 2) (by decide +kernel)
set_option maxRecDepth 20000 in
theorem wd_X10_sweep_3 : Cond.fieldLink RX10 44 "PermanentDeskModel" "rowFactors" "[D" ∈ wsX10_sweep := List.mem_of_getElem? (i := 3) (by decide +kernel)
set_option maxRecDepth 20000 in
theorem wd_X10_sweep_4 : Cond.fieldLink RX10 47 "PermanentDeskModel" "columnFactors" "[D" ∈ wsX10_sweep := List.mem_of_getElem? (i := 4) (by decide +kernel)
def f_X10_sweep_L1 (t_z : Nat → Int32) : (Int32 × (Nat → UInt64)) → Option ((Int32 × (Nat → UInt64)) ⊕ (Nat → UInt64))
  | (x2, t_scaled) =>
    if (49 : Int32) ≤ x2 then
      some (.inr t_scaled)
    else
      gd (okI x2 50) (
      gd (okI x2 49) (
      pl ((vf_upd t_scaled x2.toNatClampNeg (FP.i2d (t_z x2.toNatClampNeg))) : Nat → UInt64) (fun t_scaled_4 =>
      pl ((x2 + (1 : Int32)) : Int32) (fun x2_5 =>
      some (.inl (x2_5, t_scaled_4))))))
def f_X10_sweep_L2  : (Int32 × (Nat → UInt64) × (Nat → UInt64)) → Option ((Int32 × (Nat → UInt64) × (Nat → UInt64)) ⊕ ((Nat → UInt64) × (Nat → UInt64)))
  | (x2, t_rowFactors, t_columnFactors) =>
    if (7 : Int32) ≤ x2 then
      some (.inr (t_rowFactors, t_columnFactors))
    else
      gd (okI x2 7) (
      pl ((vf_upd t_rowFactors x2.toNatClampNeg FP.dconst1) : Nat → UInt64) (fun t_rowFactors_11 =>
      gd (okI x2 7) (
      pl ((vf_upd t_columnFactors x2.toNatClampNeg FP.dconst1) : Nat → UInt64) (fun t_columnFactors_13 =>
      pl ((x2 + (1 : Int32)) : Int32) (fun x2_14 =>
      some (.inl (x2_14, t_rowFactors_11, t_columnFactors_13)))))))
def f_X10_sweep_L4 (t_z : Nat → Int32) : (Int32 × (Nat → UInt64) × (Nat → UInt64) × (Nat → UInt64)) → Option ((Int32 × (Nat → UInt64) × (Nat → UInt64) × (Nat → UInt64)) ⊕ ((Nat → UInt64) × (Nat → UInt64) × (Nat → UInt64)))
  | (x3, t_scaled, t_rowFactors, t_columnFactors) =>
    gd (okI (49 : Int32) 50) (
    if (t_z (49 : Int32).toNatClampNeg) ≤ x3 then
      some (.inr (t_scaled, t_rowFactors, t_columnFactors))
    else
      (f_X10_sweepLine t_z t_scaled t_rowFactors t_columnFactors x3 (0 : Int32)).bind (fun (t_scaled_22, t_rowFactors_23, t_columnFactors_24) =>
      pl ((x3 + (1 : Int32)) : Int32) (fun x3_26 =>
      some (.inl (x3_26, t_scaled_22, t_rowFactors_23, t_columnFactors_24)))))
def f_X10_sweep_L5 (t_z : Nat → Int32) : (Int32 × (Nat → UInt64) × (Nat → UInt64) × (Nat → UInt64)) → Option ((Int32 × (Nat → UInt64) × (Nat → UInt64) × (Nat → UInt64)) ⊕ ((Nat → UInt64) × (Nat → UInt64) × (Nat → UInt64)))
  | (x3, t_scaled, t_rowFactors, t_columnFactors) =>
    gd (okI (49 : Int32) 50) (
    if (t_z (49 : Int32).toNatClampNeg) ≤ x3 then
      some (.inr (t_scaled, t_rowFactors, t_columnFactors))
    else
      (f_X10_sweepLine t_z t_scaled t_rowFactors t_columnFactors x3 (1 : Int32)).bind (fun (t_scaled_34, t_rowFactors_35, t_columnFactors_36) =>
      pl ((x3 + (1 : Int32)) : Int32) (fun x3_38 =>
      some (.inl (x3_38, t_scaled_34, t_rowFactors_35, t_columnFactors_36)))))
def f_X10_sweep_L3 (x1 : Int32) (t_z : Nat → Int32) : (Int32 × (Nat → UInt64) × (Nat → UInt64) × (Nat → UInt64)) → Option ((Int32 × (Nat → UInt64) × (Nat → UInt64) × (Nat → UInt64)) ⊕ ((Nat → UInt64) × (Nat → UInt64) × (Nat → UInt64)))
  | (x2, t_scaled, t_rowFactors, t_columnFactors) =>
    if x1 ≤ x2 then
      some (.inr (t_scaled, t_rowFactors, t_columnFactors))
    else
      (lpN (f_X10_sweep_L4 t_z) FU ((0 : Int32), t_scaled, t_rowFactors, t_columnFactors)).bind (fun (t_scaled_27, t_rowFactors_28, t_columnFactors_29) =>
      (lpN (f_X10_sweep_L5 t_z) FU ((0 : Int32), t_scaled_27, t_rowFactors_28, t_columnFactors_29)).bind (fun (t_scaled_39, t_rowFactors_40, t_columnFactors_41) =>
      pl ((x2 + (1 : Int32)) : Int32) (fun x2_44 =>
      some (.inl (x2_44, t_scaled_39, t_rowFactors_40, t_columnFactors_41)))))
def f_X10_sweep (t_z : Nat → Int32) (t_scaled : Nat → UInt64) (t_rowFactors : Nat → UInt64) (t_columnFactors : Nat → UInt64) (a1 : Int32) : Option ((Nat → UInt64) × (Nat → UInt64) × (Nat → UInt64)) :=
  (lpN (f_X10_sweep_L1 t_z) FU ((0 : Int32), t_scaled)).bind (fun t_scaled_6 =>
  (lpN (f_X10_sweep_L2) FU ((0 : Int32), t_rowFactors, t_columnFactors)).bind (fun (t_rowFactors_15, t_columnFactors_16) =>
  (lpN (f_X10_sweep_L3 a1 t_z) FU ((0 : Int32), t_scaled_6, t_rowFactors_15, t_columnFactors_16)).bind (fun (t_scaled_45, t_rowFactors_46, t_columnFactors_47) =>
  some (t_scaled_45, t_rowFactors_46, t_columnFactors_47))))
set_option maxHeartbeats 4000000 in
set_option maxRecDepth 100000 in
theorem l_X10_sweep_1 {p : Program} {l : Launch} {e : Env} {s : State} {m : MethodId} {args : Array Value} {below : List Frame} {meth : Method} {c : Code} {Q : State → Prop} {A0 : Nat → Prop} {H0 : Heap} (C : CallFix p m c cX10_sweep 4 s args wsX10_sweep RX10) (G : GT) (hK : gK G s) (hA : ∀ q : Nat, H0.size ≤ q → A0 q) (q_t q_t_z q_t_old q_t_past q_t_kept q_t_text q_t_order q_t_told q_t_rowsTaken q_t_columnsTaken q_t_ways q_t_scaled q_t_rowFactors q_t_columnFactors q_t_rest q_t_diagonals q_t_weights : Nat) (x1 : Int32) (t_states : Int32) (t_isKept : Int32) (t_length : Int32) (t_spot : Int32) (t_toldRows : Int32) (t_z : Nat → Int32) (t_rowFactors : Nat → UInt64) (t_columnFactors : Nat → UInt64) (E_t_scaled : Nat → UInt64) (K : ∀ (H : Heap) (locs : List Loc) (ls : Array Slot), va_P G.1 vwCl [(q_t, .inr (9, [.ref q_t_z, .ref q_t_old, .ref q_t_past, .int t_states, .ref q_t_kept, .int t_isKept, .ref q_t_text, .int t_length, .ref q_t_order, .ref q_t_told, .int t_spot, .int t_toldRows, .ref q_t_rowsTaken, .ref q_t_columnsTaken, .ref q_t_ways, .ref q_t_scaled, .ref q_t_rowFactors, .ref q_t_columnFactors, .ref q_t_rest, .ref q_t_diagonals, .ref q_t_weights])), (q_t_z, .inl (G.2 0, 50, .inl t_z)), (q_t_scaled, .inl (G.2 2, 49, .inr (.inr (.inr (.inl E_t_scaled))))), (q_t_rowFactors, .inl (G.2 2, 7, .inr (.inr (.inr (.inl t_rowFactors))))), (q_t_columnFactors, .inl (G.2 2, 7, .inr (.inr (.inr (.inl t_columnFactors)))))] H → va_D A0 [(q_t, .inr (9, [.ref q_t_z, .ref q_t_old, .ref q_t_past, .int t_states, .ref q_t_kept, .int t_isKept, .ref q_t_text, .int t_length, .ref q_t_order, .ref q_t_told, .int t_spot, .int t_toldRows, .ref q_t_rowsTaken, .ref q_t_columnsTaken, .ref q_t_ways, .ref q_t_scaled, .ref q_t_rowFactors, .ref q_t_columnFactors, .ref q_t_rest, .ref q_t_diagonals, .ref q_t_weights])), (q_t_z, .inl (G.2 0, 50, .inl t_z)), (q_t_scaled, .inl (G.2 2, 49, .inr (.inr (.inr (.inl E_t_scaled))))), (q_t_rowFactors, .inl (G.2 2, 7, .inr (.inr (.inr (.inl t_rowFactors))))), (q_t_columnFactors, .inl (G.2 2, 7, .inr (.inr (.inr (.inl t_columnFactors)))))] → va_S A0 H0 H locs → lv_has ls 4 [(0, .ref q_t), (1, .int x1)] → W p l e ({ frames := 2, cells := 0, slots := 0, locals := 50 } : Room) s m args below meth c H locs 0 0 Q (F0 m 27 ls [])) : ∀ (n : Nat) (x2 : Int32) (t_scaled : Nat → UInt64), lpN (f_X10_sweep_L1 t_z) n (x2, t_scaled) = some E_t_scaled → ∀ (H : Heap) (locs : List Loc) (ls : Array Slot), va_P G.1 vwCl [(q_t, .inr (9, [.ref q_t_z, .ref q_t_old, .ref q_t_past, .int t_states, .ref q_t_kept, .int t_isKept, .ref q_t_text, .int t_length, .ref q_t_order, .ref q_t_told, .int t_spot, .int t_toldRows, .ref q_t_rowsTaken, .ref q_t_columnsTaken, .ref q_t_ways, .ref q_t_scaled, .ref q_t_rowFactors, .ref q_t_columnFactors, .ref q_t_rest, .ref q_t_diagonals, .ref q_t_weights])), (q_t_z, .inl (G.2 0, 50, .inl t_z)), (q_t_scaled, .inl (G.2 2, 49, .inr (.inr (.inr (.inl t_scaled))))), (q_t_rowFactors, .inl (G.2 2, 7, .inr (.inr (.inr (.inl t_rowFactors))))), (q_t_columnFactors, .inl (G.2 2, 7, .inr (.inr (.inr (.inl t_columnFactors)))))] H → va_D A0 [(q_t, .inr (9, [.ref q_t_z, .ref q_t_old, .ref q_t_past, .int t_states, .ref q_t_kept, .int t_isKept, .ref q_t_text, .int t_length, .ref q_t_order, .ref q_t_told, .int t_spot, .int t_toldRows, .ref q_t_rowsTaken, .ref q_t_columnsTaken, .ref q_t_ways, .ref q_t_scaled, .ref q_t_rowFactors, .ref q_t_columnFactors, .ref q_t_rest, .ref q_t_diagonals, .ref q_t_weights])), (q_t_z, .inl (G.2 0, 50, .inl t_z)), (q_t_scaled, .inl (G.2 2, 49, .inr (.inr (.inr (.inl t_scaled))))), (q_t_rowFactors, .inl (G.2 2, 7, .inr (.inr (.inr (.inl t_rowFactors))))), (q_t_columnFactors, .inl (G.2 2, 7, .inr (.inr (.inr (.inl t_columnFactors)))))] → va_S A0 H0 H locs → lv_has ls 4 [(0, .ref q_t), (1, .int x1), (2, .int x2)] → W p l e ({ frames := 2, cells := 0, slots := 0, locals := 50 } : Room) s m args below meth c H locs 0 0 Q (F0 m 2 ls []) := by
  obtain ⟨hx, hb, hml, hown, hts⟩ := C
  intro n
  induction n with
  | zero => intro x2 t_scaled h; exact absurd h (fun h => lp_0 h)
  | succ n ih =>
    intro x2 t_scaled h H locs ls hP hD hS hl
    obtain ⟨y, h, hk⟩ := lp_s h
    rw [f_X10_sweep_L1] at h
    refine lv_iload_n hx hb dX10_sweep_2 rfl (lv_at hl 2 rfl) ?_
    refine lv_bipush (v := 49) hx hb dX10_sweep_3 (by decide) ?_
    refine lv_icmp_ge (tgt := 27) hx hb dX10_sweep_5 (by decide) (fun c_1 => ?_) (fun c_1 => ?_)
    · replace h := it_t h c_1
      obtain rfl := sm1 h
      obtain rfl := sm1 hk
      exact K H locs ls hP hD hS (lv_sub hl [0, 1] rfl)
    · replace h := it_f h c_1
      refine lv_aload_n hx hb dX10_sweep_8 rfl (lv_at hl 0 rfl) ?_
      refine va_get (D := G.1) (ci := 9) (v := .ref q_t_scaled) (C := RX10) (T := TX10) (N := 21) hx hb hts wi_X10_sweep_X10 hown hK hP 0 rfl rfl 15 (by decide) (hts _ wd_X10_sweep_1) (fun _ h9 => h9) rfl dX10_sweep_9 ?_
      refine lv_iload_n hx hb dX10_sweep_12 rfl (lv_at hl 2 rfl) ?_
      refine lv_aload_n hx hb dX10_sweep_13 rfl (lv_at hl 0 rfl) ?_
      refine va_get (D := G.1) (ci := 9) (v := .ref q_t_z) (C := RX10) (T := TX10) (N := 21) hx hb hts wi_X10_sweep_X10 hown hK hP 0 rfl rfl 0 (by decide) (hts _ wd_X10_sweep_2) (fun _ h9 => h9) rfl dX10_sweep_14 ?_
      refine lv_iload_n hx hb dX10_sweep_17 rfl (lv_at hl 2 rfl) ?_
      obtain ⟨g_2, h⟩ := gd_ok h
      refine va_iald (D := G.1) hx hb hK hP 1 0 rfl rfl g_2 dX10_sweep_18 ?_
      refine lv_i2d hx hb dX10_sweep_19 ?_
      obtain ⟨g_3, h⟩ := gd_ok h
      obtain ⟨t_scaled_4, et_scaled_4, h⟩ := pl_ok h
      refine st_d (D := G.1) (wn := [(q_t, .inr (9, [.ref q_t_z, .ref q_t_old, .ref q_t_past, .int t_states, .ref q_t_kept, .int t_isKept, .ref q_t_text, .int t_length, .ref q_t_order, .ref q_t_told, .int t_spot, .int t_toldRows, .ref q_t_rowsTaken, .ref q_t_columnsTaken, .ref q_t_ways, .ref q_t_scaled, .ref q_t_rowFactors, .ref q_t_columnFactors, .ref q_t_rest, .ref q_t_diagonals, .ref q_t_weights])), (q_t_z, .inl (G.2 0, 50, .inl t_z)), (q_t_scaled, .inl (G.2 2, 49, .inr (.inr (.inr (.inl t_scaled_4))))), (q_t_rowFactors, .inl (G.2 2, 7, .inr (.inr (.inr (.inl t_rowFactors))))), (q_t_columnFactors, .inl (G.2 2, 7, .inr (.inr (.inr (.inl t_columnFactors)))))]) hx hb hK hP hD hS 2 2 rfl rfl g_3 dX10_sweep_20 et_scaled_4 rfl (fun H locs hP hD hS => ?_)
      obtain ⟨x2_5, ex2_5, h⟩ := pl_ok h
      refine lv_iinc (v := x2_5) (lv' := [(2, .int x2_5), (0, .ref q_t), (1, .int x1)]) hx hb dX10_sweep_21 hl (k := 2) rfl (by rw [ex2_5]; rfl) (by decide) rfl (fun ls hl => ?_)
      refine lv_goto (tgt := 2) hx hb dX10_sweep_24 (by decide) ?_
      obtain rfl := sm1 h
      exact ih x2_5 t_scaled_4 hk H locs ls hP hD hS (lv_sub hl [1, 2, 0] rfl)
set_option maxHeartbeats 4000000 in
set_option maxRecDepth 100000 in
theorem l_X10_sweep_2 {p : Program} {l : Launch} {e : Env} {s : State} {m : MethodId} {args : Array Value} {below : List Frame} {meth : Method} {c : Code} {Q : State → Prop} {A0 : Nat → Prop} {H0 : Heap} (C : CallFix p m c cX10_sweep 4 s args wsX10_sweep RX10) (G : GT) (hK : gK G s) (hA : ∀ q : Nat, H0.size ≤ q → A0 q) (q_t q_t_z q_t_old q_t_past q_t_kept q_t_text q_t_order q_t_told q_t_rowsTaken q_t_columnsTaken q_t_ways q_t_scaled q_t_rowFactors q_t_columnFactors q_t_rest q_t_diagonals q_t_weights : Nat) (x1 : Int32) (t_states : Int32) (t_isKept : Int32) (t_length : Int32) (t_spot : Int32) (t_toldRows : Int32) (t_z : Nat → Int32) (t_scaled : Nat → UInt64) (E_t_rowFactors : Nat → UInt64) (E_t_columnFactors : Nat → UInt64) (K : ∀ (H : Heap) (locs : List Loc) (ls : Array Slot), va_P G.1 vwCl [(q_t, .inr (9, [.ref q_t_z, .ref q_t_old, .ref q_t_past, .int t_states, .ref q_t_kept, .int t_isKept, .ref q_t_text, .int t_length, .ref q_t_order, .ref q_t_told, .int t_spot, .int t_toldRows, .ref q_t_rowsTaken, .ref q_t_columnsTaken, .ref q_t_ways, .ref q_t_scaled, .ref q_t_rowFactors, .ref q_t_columnFactors, .ref q_t_rest, .ref q_t_diagonals, .ref q_t_weights])), (q_t_z, .inl (G.2 0, 50, .inl t_z)), (q_t_scaled, .inl (G.2 2, 49, .inr (.inr (.inr (.inl t_scaled))))), (q_t_rowFactors, .inl (G.2 2, 7, .inr (.inr (.inr (.inl E_t_rowFactors))))), (q_t_columnFactors, .inl (G.2 2, 7, .inr (.inr (.inr (.inl E_t_columnFactors)))))] H → va_D A0 [(q_t, .inr (9, [.ref q_t_z, .ref q_t_old, .ref q_t_past, .int t_states, .ref q_t_kept, .int t_isKept, .ref q_t_text, .int t_length, .ref q_t_order, .ref q_t_told, .int t_spot, .int t_toldRows, .ref q_t_rowsTaken, .ref q_t_columnsTaken, .ref q_t_ways, .ref q_t_scaled, .ref q_t_rowFactors, .ref q_t_columnFactors, .ref q_t_rest, .ref q_t_diagonals, .ref q_t_weights])), (q_t_z, .inl (G.2 0, 50, .inl t_z)), (q_t_scaled, .inl (G.2 2, 49, .inr (.inr (.inr (.inl t_scaled))))), (q_t_rowFactors, .inl (G.2 2, 7, .inr (.inr (.inr (.inl E_t_rowFactors))))), (q_t_columnFactors, .inl (G.2 2, 7, .inr (.inr (.inr (.inl E_t_columnFactors)))))] → va_S A0 H0 H locs → lv_has ls 4 [(0, .ref q_t), (1, .int x1)] → W p l e ({ frames := 2, cells := 0, slots := 0, locals := 50 } : Room) s m args below meth c H locs 0 0 Q (F0 m 55 ls [])) : ∀ (n : Nat) (x2 : Int32) (t_rowFactors : Nat → UInt64) (t_columnFactors : Nat → UInt64), lpN (f_X10_sweep_L2) n (x2, t_rowFactors, t_columnFactors) = some (E_t_rowFactors, E_t_columnFactors) → ∀ (H : Heap) (locs : List Loc) (ls : Array Slot), va_P G.1 vwCl [(q_t, .inr (9, [.ref q_t_z, .ref q_t_old, .ref q_t_past, .int t_states, .ref q_t_kept, .int t_isKept, .ref q_t_text, .int t_length, .ref q_t_order, .ref q_t_told, .int t_spot, .int t_toldRows, .ref q_t_rowsTaken, .ref q_t_columnsTaken, .ref q_t_ways, .ref q_t_scaled, .ref q_t_rowFactors, .ref q_t_columnFactors, .ref q_t_rest, .ref q_t_diagonals, .ref q_t_weights])), (q_t_z, .inl (G.2 0, 50, .inl t_z)), (q_t_scaled, .inl (G.2 2, 49, .inr (.inr (.inr (.inl t_scaled))))), (q_t_rowFactors, .inl (G.2 2, 7, .inr (.inr (.inr (.inl t_rowFactors))))), (q_t_columnFactors, .inl (G.2 2, 7, .inr (.inr (.inr (.inl t_columnFactors)))))] H → va_D A0 [(q_t, .inr (9, [.ref q_t_z, .ref q_t_old, .ref q_t_past, .int t_states, .ref q_t_kept, .int t_isKept, .ref q_t_text, .int t_length, .ref q_t_order, .ref q_t_told, .int t_spot, .int t_toldRows, .ref q_t_rowsTaken, .ref q_t_columnsTaken, .ref q_t_ways, .ref q_t_scaled, .ref q_t_rowFactors, .ref q_t_columnFactors, .ref q_t_rest, .ref q_t_diagonals, .ref q_t_weights])), (q_t_z, .inl (G.2 0, 50, .inl t_z)), (q_t_scaled, .inl (G.2 2, 49, .inr (.inr (.inr (.inl t_scaled))))), (q_t_rowFactors, .inl (G.2 2, 7, .inr (.inr (.inr (.inl t_rowFactors))))), (q_t_columnFactors, .inl (G.2 2, 7, .inr (.inr (.inr (.inl t_columnFactors)))))] → va_S A0 H0 H locs → lv_has ls 4 [(0, .ref q_t), (1, .int x1), (2, .int x2)] → W p l e ({ frames := 2, cells := 0, slots := 0, locals := 50 } : Room) s m args below meth c H locs 0 0 Q (F0 m 29 ls []) := by
  obtain ⟨hx, hb, hml, hown, hts⟩ := C
  intro n
  induction n with
  | zero => intro x2 t_rowFactors t_columnFactors h; exact absurd h (fun h => lp_0 h)
  | succ n ih =>
    intro x2 t_rowFactors t_columnFactors h H locs ls hP hD hS hl
    obtain ⟨y, h, hk⟩ := lp_s h
    rw [f_X10_sweep_L2] at h
    refine lv_iload_n hx hb dX10_sweep_29 rfl (lv_at hl 2 rfl) ?_
    refine lv_bipush (v := 7) hx hb dX10_sweep_30 (by decide) ?_
    refine lv_icmp_ge (tgt := 55) hx hb dX10_sweep_32 (by decide) (fun c_9 => ?_) (fun c_9 => ?_)
    · replace h := it_t h c_9
      obtain rfl := sm1 h
      obtain ⟨rfl, rfl⟩ := sm2 hk
      exact K H locs ls hP hD hS (lv_sub hl [0, 1] rfl)
    · replace h := it_f h c_9
      refine lv_aload_n hx hb dX10_sweep_35 rfl (lv_at hl 0 rfl) ?_
      refine va_get (D := G.1) (ci := 9) (v := .ref q_t_rowFactors) (C := RX10) (T := TX10) (N := 21) hx hb hts wi_X10_sweep_X10 hown hK hP 0 rfl rfl 16 (by decide) (hts _ wd_X10_sweep_3) (fun _ h9 => h9) rfl dX10_sweep_36 ?_
      refine lv_iload_n hx hb dX10_sweep_39 rfl (lv_at hl 2 rfl) ?_
      refine lv_dconst1 hx hb dX10_sweep_40 ?_
      obtain ⟨g_10, h⟩ := gd_ok h
      obtain ⟨t_rowFactors_11, et_rowFactors_11, h⟩ := pl_ok h
      refine st_d (D := G.1) (wn := [(q_t, .inr (9, [.ref q_t_z, .ref q_t_old, .ref q_t_past, .int t_states, .ref q_t_kept, .int t_isKept, .ref q_t_text, .int t_length, .ref q_t_order, .ref q_t_told, .int t_spot, .int t_toldRows, .ref q_t_rowsTaken, .ref q_t_columnsTaken, .ref q_t_ways, .ref q_t_scaled, .ref q_t_rowFactors, .ref q_t_columnFactors, .ref q_t_rest, .ref q_t_diagonals, .ref q_t_weights])), (q_t_z, .inl (G.2 0, 50, .inl t_z)), (q_t_scaled, .inl (G.2 2, 49, .inr (.inr (.inr (.inl t_scaled))))), (q_t_rowFactors, .inl (G.2 2, 7, .inr (.inr (.inr (.inl t_rowFactors_11))))), (q_t_columnFactors, .inl (G.2 2, 7, .inr (.inr (.inr (.inl t_columnFactors)))))]) hx hb hK hP hD hS 3 2 rfl rfl g_10 dX10_sweep_41 et_rowFactors_11 rfl (fun H locs hP hD hS => ?_)
      refine lv_aload_n hx hb dX10_sweep_42 rfl (lv_at hl 0 rfl) ?_
      refine va_get (D := G.1) (ci := 9) (v := .ref q_t_columnFactors) (C := RX10) (T := TX10) (N := 21) hx hb hts wi_X10_sweep_X10 hown hK hP 0 rfl rfl 17 (by decide) (hts _ wd_X10_sweep_4) (fun _ h9 => h9) rfl dX10_sweep_43 ?_
      refine lv_iload_n hx hb dX10_sweep_46 rfl (lv_at hl 2 rfl) ?_
      refine lv_dconst1 hx hb dX10_sweep_47 ?_
      obtain ⟨g_12, h⟩ := gd_ok h
      obtain ⟨t_columnFactors_13, et_columnFactors_13, h⟩ := pl_ok h
      refine st_d (D := G.1) (wn := [(q_t, .inr (9, [.ref q_t_z, .ref q_t_old, .ref q_t_past, .int t_states, .ref q_t_kept, .int t_isKept, .ref q_t_text, .int t_length, .ref q_t_order, .ref q_t_told, .int t_spot, .int t_toldRows, .ref q_t_rowsTaken, .ref q_t_columnsTaken, .ref q_t_ways, .ref q_t_scaled, .ref q_t_rowFactors, .ref q_t_columnFactors, .ref q_t_rest, .ref q_t_diagonals, .ref q_t_weights])), (q_t_z, .inl (G.2 0, 50, .inl t_z)), (q_t_scaled, .inl (G.2 2, 49, .inr (.inr (.inr (.inl t_scaled))))), (q_t_rowFactors, .inl (G.2 2, 7, .inr (.inr (.inr (.inl t_rowFactors_11))))), (q_t_columnFactors, .inl (G.2 2, 7, .inr (.inr (.inr (.inl t_columnFactors_13)))))]) hx hb hK hP hD hS 4 2 rfl rfl g_12 dX10_sweep_48 et_columnFactors_13 rfl (fun H locs hP hD hS => ?_)
      obtain ⟨x2_14, ex2_14, h⟩ := pl_ok h
      refine lv_iinc (v := x2_14) (lv' := [(2, .int x2_14), (0, .ref q_t), (1, .int x1)]) hx hb dX10_sweep_49 hl (k := 2) rfl (by rw [ex2_14]; rfl) (by decide) rfl (fun ls hl => ?_)
      refine lv_goto (tgt := 29) hx hb dX10_sweep_52 (by decide) ?_
      obtain rfl := sm1 h
      exact ih x2_14 t_rowFactors_11 t_columnFactors_13 hk H locs ls hP hD hS (lv_sub hl [1, 2, 0] rfl)
set_option maxHeartbeats 4000000 in
set_option maxRecDepth 100000 in
theorem l_X10_sweep_4 {p : Program} {l : Launch} {e : Env} {s : State} {m : MethodId} {args : Array Value} {below : List Frame} {meth : Method} {c : Code} {Q : State → Prop} {A0 : Nat → Prop} {H0 : Heap} (C : CallFix p m c cX10_sweep 4 s args wsX10_sweep RX10) (G : GT) (hK : gK G s) (hA : ∀ q : Nat, H0.size ≤ q → A0 q) (q_t q_t_z q_t_old q_t_past q_t_kept q_t_text q_t_order q_t_told q_t_rowsTaken q_t_columnsTaken q_t_ways q_t_scaled q_t_rowFactors q_t_columnFactors q_t_rest q_t_diagonals q_t_weights : Nat) (x1 : Int32) (x2 : Int32) (t_states : Int32) (t_isKept : Int32) (t_length : Int32) (t_spot : Int32) (t_toldRows : Int32) (t_z : Nat → Int32) (E_t_scaled : Nat → UInt64) (E_t_rowFactors : Nat → UInt64) (E_t_columnFactors : Nat → UInt64) (K : ∀ (H : Heap) (locs : List Loc) (ls : Array Slot), va_P G.1 vwCl [(q_t, .inr (9, [.ref q_t_z, .ref q_t_old, .ref q_t_past, .int t_states, .ref q_t_kept, .int t_isKept, .ref q_t_text, .int t_length, .ref q_t_order, .ref q_t_told, .int t_spot, .int t_toldRows, .ref q_t_rowsTaken, .ref q_t_columnsTaken, .ref q_t_ways, .ref q_t_scaled, .ref q_t_rowFactors, .ref q_t_columnFactors, .ref q_t_rest, .ref q_t_diagonals, .ref q_t_weights])), (q_t_z, .inl (G.2 0, 50, .inl t_z)), (q_t_scaled, .inl (G.2 2, 49, .inr (.inr (.inr (.inl E_t_scaled))))), (q_t_rowFactors, .inl (G.2 2, 7, .inr (.inr (.inr (.inl E_t_rowFactors))))), (q_t_columnFactors, .inl (G.2 2, 7, .inr (.inr (.inr (.inl E_t_columnFactors)))))] H → va_D A0 [(q_t, .inr (9, [.ref q_t_z, .ref q_t_old, .ref q_t_past, .int t_states, .ref q_t_kept, .int t_isKept, .ref q_t_text, .int t_length, .ref q_t_order, .ref q_t_told, .int t_spot, .int t_toldRows, .ref q_t_rowsTaken, .ref q_t_columnsTaken, .ref q_t_ways, .ref q_t_scaled, .ref q_t_rowFactors, .ref q_t_columnFactors, .ref q_t_rest, .ref q_t_diagonals, .ref q_t_weights])), (q_t_z, .inl (G.2 0, 50, .inl t_z)), (q_t_scaled, .inl (G.2 2, 49, .inr (.inr (.inr (.inl E_t_scaled))))), (q_t_rowFactors, .inl (G.2 2, 7, .inr (.inr (.inr (.inl E_t_rowFactors))))), (q_t_columnFactors, .inl (G.2 2, 7, .inr (.inr (.inr (.inl E_t_columnFactors)))))] → va_S A0 H0 H locs → lv_has ls 4 [(0, .ref q_t), (1, .int x1), (2, .int x2)] → W p l e ({ frames := 2, cells := 0, slots := 0, locals := 50 } : Room) s m args below meth c H locs 0 0 Q (F0 m 87 ls [])) : ∀ (n : Nat) (x3 : Int32) (t_scaled : Nat → UInt64) (t_rowFactors : Nat → UInt64) (t_columnFactors : Nat → UInt64), lpN (f_X10_sweep_L4 t_z) n (x3, t_scaled, t_rowFactors, t_columnFactors) = some (E_t_scaled, E_t_rowFactors, E_t_columnFactors) → ∀ (H : Heap) (locs : List Loc) (ls : Array Slot), va_P G.1 vwCl [(q_t, .inr (9, [.ref q_t_z, .ref q_t_old, .ref q_t_past, .int t_states, .ref q_t_kept, .int t_isKept, .ref q_t_text, .int t_length, .ref q_t_order, .ref q_t_told, .int t_spot, .int t_toldRows, .ref q_t_rowsTaken, .ref q_t_columnsTaken, .ref q_t_ways, .ref q_t_scaled, .ref q_t_rowFactors, .ref q_t_columnFactors, .ref q_t_rest, .ref q_t_diagonals, .ref q_t_weights])), (q_t_z, .inl (G.2 0, 50, .inl t_z)), (q_t_scaled, .inl (G.2 2, 49, .inr (.inr (.inr (.inl t_scaled))))), (q_t_rowFactors, .inl (G.2 2, 7, .inr (.inr (.inr (.inl t_rowFactors))))), (q_t_columnFactors, .inl (G.2 2, 7, .inr (.inr (.inr (.inl t_columnFactors)))))] H → va_D A0 [(q_t, .inr (9, [.ref q_t_z, .ref q_t_old, .ref q_t_past, .int t_states, .ref q_t_kept, .int t_isKept, .ref q_t_text, .int t_length, .ref q_t_order, .ref q_t_told, .int t_spot, .int t_toldRows, .ref q_t_rowsTaken, .ref q_t_columnsTaken, .ref q_t_ways, .ref q_t_scaled, .ref q_t_rowFactors, .ref q_t_columnFactors, .ref q_t_rest, .ref q_t_diagonals, .ref q_t_weights])), (q_t_z, .inl (G.2 0, 50, .inl t_z)), (q_t_scaled, .inl (G.2 2, 49, .inr (.inr (.inr (.inl t_scaled))))), (q_t_rowFactors, .inl (G.2 2, 7, .inr (.inr (.inr (.inl t_rowFactors))))), (q_t_columnFactors, .inl (G.2 2, 7, .inr (.inr (.inr (.inl t_columnFactors)))))] → va_S A0 H0 H locs → lv_has ls 4 [(0, .ref q_t), (1, .int x1), (2, .int x2), (3, .int x3)] → W p l e ({ frames := 2, cells := 0, slots := 0, locals := 50 } : Room) s m args below meth c H locs 0 0 Q (F0 m 64 ls []) := by
  obtain ⟨hx, hb, hml, hown, hts⟩ := C
  intro n
  induction n with
  | zero => intro x3 t_scaled t_rowFactors t_columnFactors h; exact absurd h (fun h => lp_0 h)
  | succ n ih =>
    intro x3 t_scaled t_rowFactors t_columnFactors h H locs ls hP hD hS hl
    obtain ⟨y, h, hk⟩ := lp_s h
    rw [f_X10_sweep_L4] at h
    refine lv_iload_n hx hb dX10_sweep_64 rfl (lv_at hl 3 rfl) ?_
    refine lv_aload_n hx hb dX10_sweep_65 rfl (lv_at hl 0 rfl) ?_
    refine va_get (D := G.1) (ci := 9) (v := .ref q_t_z) (C := RX10) (T := TX10) (N := 21) hx hb hts wi_X10_sweep_X10 hown hK hP 0 rfl rfl 0 (by decide) (hts _ wd_X10_sweep_2) (fun _ h9 => h9) rfl dX10_sweep_66 ?_
    refine lv_bipush (v := 49) hx hb dX10_sweep_69 (by decide) ?_
    obtain ⟨g_20, h⟩ := gd_ok h
    refine va_iald (D := G.1) hx hb hK hP 1 0 rfl rfl g_20 dX10_sweep_71 ?_
    refine lv_icmp_ge (tgt := 87) hx hb dX10_sweep_72 (by decide) (fun c_21 => ?_) (fun c_21 => ?_)
    · replace h := it_t h c_21
      obtain rfl := sm1 h
      obtain ⟨rfl, rfl, rfl⟩ := sm3 hk
      exact K H locs ls hP hD hS (lv_sub hl [0, 1, 2] rfl)
    · replace h := it_f h c_21
      refine lv_aload_n hx hb dX10_sweep_75 rfl (lv_at hl 0 rfl) ?_
      refine lv_iload_n hx hb dX10_sweep_76 rfl (lv_at hl 3 rfl) ?_
      refine lv_iconst (v := 0) hx hb dX10_sweep_77 (by decide) ?_
      obtain ⟨⟨t_scaled_22, t_rowFactors_23, t_columnFactors_24⟩, hf_25, h⟩ := bd_ok h
      refine ck_Vv (rest := []) (wn := [(q_t, .inr (9, [.ref q_t_z, .ref q_t_old, .ref q_t_past, .int t_states, .ref q_t_kept, .int t_isKept, .ref q_t_text, .int t_length, .ref q_t_order, .ref q_t_told, .int t_spot, .int t_toldRows, .ref q_t_rowsTaken, .ref q_t_columnsTaken, .ref q_t_ways, .ref q_t_scaled, .ref q_t_rowFactors, .ref q_t_columnFactors, .ref q_t_rest, .ref q_t_diagonals, .ref q_t_weights])), (q_t_z, .inl (G.2 0, 50, .inl t_z)), (q_t_scaled, .inl (G.2 2, 49, .inr (.inr (.inr (.inl t_scaled_22))))), (q_t_rowFactors, .inl (G.2 2, 7, .inr (.inr (.inr (.inl t_rowFactors_23))))), (q_t_columnFactors, .inl (G.2 2, 7, .inr (.inr (.inr (.inl t_columnFactors_24)))))]) ⟨hx, hb, hml, hown, hts⟩ hK hP hD hS hA [0, 1, 2, 3, 4] [] [0, 1, 2, 3, 4] (c_X10_sweepLine l G q_t q_t_z q_t_old q_t_past q_t_kept q_t_text q_t_order q_t_told q_t_rowsTaken q_t_columnsTaken q_t_ways q_t_scaled q_t_rowFactors q_t_columnFactors q_t_rest q_t_diagonals q_t_weights _ t_states t_isKept t_length t_spot t_toldRows t_z t_scaled t_rowFactors t_columnFactors x3 (0 : Int32) _ _ _ hf_25) (cwV 2 hts gX10_sweep_X10_sweepLine rfl rfl rfl (by decide +kernel) ⟨Nat.le_of_ble_eq_true rfl, Nat.le_of_ble_eq_true rfl⟩) rfl rfl rfl rfl rfl rfl (by decide) rfl rfl rfl hl.1 rfl (Nat.le_of_ble_eq_true rfl) dX10_sweep_78 ⟨Nat.zero_le _, Nat.zero_le _⟩ (fun H locs hP hD hS => ?_)
      obtain ⟨x3_26, ex3_26, h⟩ := pl_ok h
      refine lv_iinc (v := x3_26) (lv' := [(3, .int x3_26), (0, .ref q_t), (1, .int x1), (2, .int x2)]) hx hb dX10_sweep_81 hl (k := 3) rfl (by rw [ex3_26]; rfl) (by decide) rfl (fun ls hl => ?_)
      refine lv_goto (tgt := 64) hx hb dX10_sweep_84 (by decide) ?_
      obtain rfl := sm1 h
      exact ih x3_26 t_scaled_22 t_rowFactors_23 t_columnFactors_24 hk H locs ls hP hD hS (lv_sub hl [1, 2, 3, 0] rfl)
set_option maxHeartbeats 4000000 in
set_option maxRecDepth 100000 in
theorem l_X10_sweep_5 {p : Program} {l : Launch} {e : Env} {s : State} {m : MethodId} {args : Array Value} {below : List Frame} {meth : Method} {c : Code} {Q : State → Prop} {A0 : Nat → Prop} {H0 : Heap} (C : CallFix p m c cX10_sweep 4 s args wsX10_sweep RX10) (G : GT) (hK : gK G s) (hA : ∀ q : Nat, H0.size ≤ q → A0 q) (q_t q_t_z q_t_old q_t_past q_t_kept q_t_text q_t_order q_t_told q_t_rowsTaken q_t_columnsTaken q_t_ways q_t_scaled q_t_rowFactors q_t_columnFactors q_t_rest q_t_diagonals q_t_weights : Nat) (x1 : Int32) (x2 : Int32) (t_states : Int32) (t_isKept : Int32) (t_length : Int32) (t_spot : Int32) (t_toldRows : Int32) (t_z : Nat → Int32) (E_t_scaled : Nat → UInt64) (E_t_rowFactors : Nat → UInt64) (E_t_columnFactors : Nat → UInt64) (K : ∀ (H : Heap) (locs : List Loc) (ls : Array Slot), va_P G.1 vwCl [(q_t, .inr (9, [.ref q_t_z, .ref q_t_old, .ref q_t_past, .int t_states, .ref q_t_kept, .int t_isKept, .ref q_t_text, .int t_length, .ref q_t_order, .ref q_t_told, .int t_spot, .int t_toldRows, .ref q_t_rowsTaken, .ref q_t_columnsTaken, .ref q_t_ways, .ref q_t_scaled, .ref q_t_rowFactors, .ref q_t_columnFactors, .ref q_t_rest, .ref q_t_diagonals, .ref q_t_weights])), (q_t_z, .inl (G.2 0, 50, .inl t_z)), (q_t_scaled, .inl (G.2 2, 49, .inr (.inr (.inr (.inl E_t_scaled))))), (q_t_rowFactors, .inl (G.2 2, 7, .inr (.inr (.inr (.inl E_t_rowFactors))))), (q_t_columnFactors, .inl (G.2 2, 7, .inr (.inr (.inr (.inl E_t_columnFactors)))))] H → va_D A0 [(q_t, .inr (9, [.ref q_t_z, .ref q_t_old, .ref q_t_past, .int t_states, .ref q_t_kept, .int t_isKept, .ref q_t_text, .int t_length, .ref q_t_order, .ref q_t_told, .int t_spot, .int t_toldRows, .ref q_t_rowsTaken, .ref q_t_columnsTaken, .ref q_t_ways, .ref q_t_scaled, .ref q_t_rowFactors, .ref q_t_columnFactors, .ref q_t_rest, .ref q_t_diagonals, .ref q_t_weights])), (q_t_z, .inl (G.2 0, 50, .inl t_z)), (q_t_scaled, .inl (G.2 2, 49, .inr (.inr (.inr (.inl E_t_scaled))))), (q_t_rowFactors, .inl (G.2 2, 7, .inr (.inr (.inr (.inl E_t_rowFactors))))), (q_t_columnFactors, .inl (G.2 2, 7, .inr (.inr (.inr (.inl E_t_columnFactors)))))] → va_S A0 H0 H locs → lv_has ls 4 [(0, .ref q_t), (1, .int x1), (2, .int x2)] → W p l e ({ frames := 2, cells := 0, slots := 0, locals := 50 } : Room) s m args below meth c H locs 0 0 Q (F0 m 112 ls [])) : ∀ (n : Nat) (x3 : Int32) (t_scaled : Nat → UInt64) (t_rowFactors : Nat → UInt64) (t_columnFactors : Nat → UInt64), lpN (f_X10_sweep_L5 t_z) n (x3, t_scaled, t_rowFactors, t_columnFactors) = some (E_t_scaled, E_t_rowFactors, E_t_columnFactors) → ∀ (H : Heap) (locs : List Loc) (ls : Array Slot), va_P G.1 vwCl [(q_t, .inr (9, [.ref q_t_z, .ref q_t_old, .ref q_t_past, .int t_states, .ref q_t_kept, .int t_isKept, .ref q_t_text, .int t_length, .ref q_t_order, .ref q_t_told, .int t_spot, .int t_toldRows, .ref q_t_rowsTaken, .ref q_t_columnsTaken, .ref q_t_ways, .ref q_t_scaled, .ref q_t_rowFactors, .ref q_t_columnFactors, .ref q_t_rest, .ref q_t_diagonals, .ref q_t_weights])), (q_t_z, .inl (G.2 0, 50, .inl t_z)), (q_t_scaled, .inl (G.2 2, 49, .inr (.inr (.inr (.inl t_scaled))))), (q_t_rowFactors, .inl (G.2 2, 7, .inr (.inr (.inr (.inl t_rowFactors))))), (q_t_columnFactors, .inl (G.2 2, 7, .inr (.inr (.inr (.inl t_columnFactors)))))] H → va_D A0 [(q_t, .inr (9, [.ref q_t_z, .ref q_t_old, .ref q_t_past, .int t_states, .ref q_t_kept, .int t_isKept, .ref q_t_text, .int t_length, .ref q_t_order, .ref q_t_told, .int t_spot, .int t_toldRows, .ref q_t_rowsTaken, .ref q_t_columnsTaken, .ref q_t_ways, .ref q_t_scaled, .ref q_t_rowFactors, .ref q_t_columnFactors, .ref q_t_rest, .ref q_t_diagonals, .ref q_t_weights])), (q_t_z, .inl (G.2 0, 50, .inl t_z)), (q_t_scaled, .inl (G.2 2, 49, .inr (.inr (.inr (.inl t_scaled))))), (q_t_rowFactors, .inl (G.2 2, 7, .inr (.inr (.inr (.inl t_rowFactors))))), (q_t_columnFactors, .inl (G.2 2, 7, .inr (.inr (.inr (.inl t_columnFactors)))))] → va_S A0 H0 H locs → lv_has ls 4 [(0, .ref q_t), (1, .int x1), (2, .int x2), (3, .int x3)] → W p l e ({ frames := 2, cells := 0, slots := 0, locals := 50 } : Room) s m args below meth c H locs 0 0 Q (F0 m 89 ls []) := by
  obtain ⟨hx, hb, hml, hown, hts⟩ := C
  intro n
  induction n with
  | zero => intro x3 t_scaled t_rowFactors t_columnFactors h; exact absurd h (fun h => lp_0 h)
  | succ n ih =>
    intro x3 t_scaled t_rowFactors t_columnFactors h H locs ls hP hD hS hl
    obtain ⟨y, h, hk⟩ := lp_s h
    rw [f_X10_sweep_L5] at h
    refine lv_iload_n hx hb dX10_sweep_89 rfl (lv_at hl 3 rfl) ?_
    refine lv_aload_n hx hb dX10_sweep_90 rfl (lv_at hl 0 rfl) ?_
    refine va_get (D := G.1) (ci := 9) (v := .ref q_t_z) (C := RX10) (T := TX10) (N := 21) hx hb hts wi_X10_sweep_X10 hown hK hP 0 rfl rfl 0 (by decide) (hts _ wd_X10_sweep_2) (fun _ h9 => h9) rfl dX10_sweep_91 ?_
    refine lv_bipush (v := 49) hx hb dX10_sweep_94 (by decide) ?_
    obtain ⟨g_32, h⟩ := gd_ok h
    refine va_iald (D := G.1) hx hb hK hP 1 0 rfl rfl g_32 dX10_sweep_96 ?_
    refine lv_icmp_ge (tgt := 112) hx hb dX10_sweep_97 (by decide) (fun c_33 => ?_) (fun c_33 => ?_)
    · replace h := it_t h c_33
      obtain rfl := sm1 h
      obtain ⟨rfl, rfl, rfl⟩ := sm3 hk
      exact K H locs ls hP hD hS (lv_sub hl [0, 1, 2] rfl)
    · replace h := it_f h c_33
      refine lv_aload_n hx hb dX10_sweep_100 rfl (lv_at hl 0 rfl) ?_
      refine lv_iload_n hx hb dX10_sweep_101 rfl (lv_at hl 3 rfl) ?_
      refine lv_iconst (v := 1) hx hb dX10_sweep_102 (by decide) ?_
      obtain ⟨⟨t_scaled_34, t_rowFactors_35, t_columnFactors_36⟩, hf_37, h⟩ := bd_ok h
      refine ck_Vv (rest := []) (wn := [(q_t, .inr (9, [.ref q_t_z, .ref q_t_old, .ref q_t_past, .int t_states, .ref q_t_kept, .int t_isKept, .ref q_t_text, .int t_length, .ref q_t_order, .ref q_t_told, .int t_spot, .int t_toldRows, .ref q_t_rowsTaken, .ref q_t_columnsTaken, .ref q_t_ways, .ref q_t_scaled, .ref q_t_rowFactors, .ref q_t_columnFactors, .ref q_t_rest, .ref q_t_diagonals, .ref q_t_weights])), (q_t_z, .inl (G.2 0, 50, .inl t_z)), (q_t_scaled, .inl (G.2 2, 49, .inr (.inr (.inr (.inl t_scaled_34))))), (q_t_rowFactors, .inl (G.2 2, 7, .inr (.inr (.inr (.inl t_rowFactors_35))))), (q_t_columnFactors, .inl (G.2 2, 7, .inr (.inr (.inr (.inl t_columnFactors_36)))))]) ⟨hx, hb, hml, hown, hts⟩ hK hP hD hS hA [0, 1, 2, 3, 4] [] [0, 1, 2, 3, 4] (c_X10_sweepLine l G q_t q_t_z q_t_old q_t_past q_t_kept q_t_text q_t_order q_t_told q_t_rowsTaken q_t_columnsTaken q_t_ways q_t_scaled q_t_rowFactors q_t_columnFactors q_t_rest q_t_diagonals q_t_weights _ t_states t_isKept t_length t_spot t_toldRows t_z t_scaled t_rowFactors t_columnFactors x3 (1 : Int32) _ _ _ hf_37) (cwV 2 hts gX10_sweep_X10_sweepLine rfl rfl rfl (by decide +kernel) ⟨Nat.le_of_ble_eq_true rfl, Nat.le_of_ble_eq_true rfl⟩) rfl rfl rfl rfl rfl rfl (by decide) rfl rfl rfl hl.1 rfl (Nat.le_of_ble_eq_true rfl) dX10_sweep_103 ⟨Nat.zero_le _, Nat.zero_le _⟩ (fun H locs hP hD hS => ?_)
      obtain ⟨x3_38, ex3_38, h⟩ := pl_ok h
      refine lv_iinc (v := x3_38) (lv' := [(3, .int x3_38), (0, .ref q_t), (1, .int x1), (2, .int x2)]) hx hb dX10_sweep_106 hl (k := 3) rfl (by rw [ex3_38]; rfl) (by decide) rfl (fun ls hl => ?_)
      refine lv_goto (tgt := 89) hx hb dX10_sweep_109 (by decide) ?_
      obtain rfl := sm1 h
      exact ih x3_38 t_scaled_34 t_rowFactors_35 t_columnFactors_36 hk H locs ls hP hD hS (lv_sub hl [1, 2, 3, 0] rfl)
set_option maxHeartbeats 4000000 in
set_option maxRecDepth 100000 in
theorem l_X10_sweep_3 {p : Program} {l : Launch} {e : Env} {s : State} {m : MethodId} {args : Array Value} {below : List Frame} {meth : Method} {c : Code} {Q : State → Prop} {A0 : Nat → Prop} {H0 : Heap} (C : CallFix p m c cX10_sweep 4 s args wsX10_sweep RX10) (G : GT) (hK : gK G s) (hA : ∀ q : Nat, H0.size ≤ q → A0 q) (q_t q_t_z q_t_old q_t_past q_t_kept q_t_text q_t_order q_t_told q_t_rowsTaken q_t_columnsTaken q_t_ways q_t_scaled q_t_rowFactors q_t_columnFactors q_t_rest q_t_diagonals q_t_weights : Nat) (x1 : Int32) (t_states : Int32) (t_isKept : Int32) (t_length : Int32) (t_spot : Int32) (t_toldRows : Int32) (t_z : Nat → Int32) (E_t_scaled : Nat → UInt64) (E_t_rowFactors : Nat → UInt64) (E_t_columnFactors : Nat → UInt64) (K : ∀ (H : Heap) (locs : List Loc) (ls : Array Slot), va_P G.1 vwCl [(q_t, .inr (9, [.ref q_t_z, .ref q_t_old, .ref q_t_past, .int t_states, .ref q_t_kept, .int t_isKept, .ref q_t_text, .int t_length, .ref q_t_order, .ref q_t_told, .int t_spot, .int t_toldRows, .ref q_t_rowsTaken, .ref q_t_columnsTaken, .ref q_t_ways, .ref q_t_scaled, .ref q_t_rowFactors, .ref q_t_columnFactors, .ref q_t_rest, .ref q_t_diagonals, .ref q_t_weights])), (q_t_z, .inl (G.2 0, 50, .inl t_z)), (q_t_scaled, .inl (G.2 2, 49, .inr (.inr (.inr (.inl E_t_scaled))))), (q_t_rowFactors, .inl (G.2 2, 7, .inr (.inr (.inr (.inl E_t_rowFactors))))), (q_t_columnFactors, .inl (G.2 2, 7, .inr (.inr (.inr (.inl E_t_columnFactors)))))] H → va_D A0 [(q_t, .inr (9, [.ref q_t_z, .ref q_t_old, .ref q_t_past, .int t_states, .ref q_t_kept, .int t_isKept, .ref q_t_text, .int t_length, .ref q_t_order, .ref q_t_told, .int t_spot, .int t_toldRows, .ref q_t_rowsTaken, .ref q_t_columnsTaken, .ref q_t_ways, .ref q_t_scaled, .ref q_t_rowFactors, .ref q_t_columnFactors, .ref q_t_rest, .ref q_t_diagonals, .ref q_t_weights])), (q_t_z, .inl (G.2 0, 50, .inl t_z)), (q_t_scaled, .inl (G.2 2, 49, .inr (.inr (.inr (.inl E_t_scaled))))), (q_t_rowFactors, .inl (G.2 2, 7, .inr (.inr (.inr (.inl E_t_rowFactors))))), (q_t_columnFactors, .inl (G.2 2, 7, .inr (.inr (.inr (.inl E_t_columnFactors)))))] → va_S A0 H0 H locs → lv_has ls 4 [] → W p l e ({ frames := 2, cells := 0, slots := 0, locals := 50 } : Room) s m args below meth c H locs 0 0 Q (F0 m 118 ls [])) : ∀ (n : Nat) (x2 : Int32) (t_scaled : Nat → UInt64) (t_rowFactors : Nat → UInt64) (t_columnFactors : Nat → UInt64), lpN (f_X10_sweep_L3 x1 t_z) n (x2, t_scaled, t_rowFactors, t_columnFactors) = some (E_t_scaled, E_t_rowFactors, E_t_columnFactors) → ∀ (H : Heap) (locs : List Loc) (ls : Array Slot), va_P G.1 vwCl [(q_t, .inr (9, [.ref q_t_z, .ref q_t_old, .ref q_t_past, .int t_states, .ref q_t_kept, .int t_isKept, .ref q_t_text, .int t_length, .ref q_t_order, .ref q_t_told, .int t_spot, .int t_toldRows, .ref q_t_rowsTaken, .ref q_t_columnsTaken, .ref q_t_ways, .ref q_t_scaled, .ref q_t_rowFactors, .ref q_t_columnFactors, .ref q_t_rest, .ref q_t_diagonals, .ref q_t_weights])), (q_t_z, .inl (G.2 0, 50, .inl t_z)), (q_t_scaled, .inl (G.2 2, 49, .inr (.inr (.inr (.inl t_scaled))))), (q_t_rowFactors, .inl (G.2 2, 7, .inr (.inr (.inr (.inl t_rowFactors))))), (q_t_columnFactors, .inl (G.2 2, 7, .inr (.inr (.inr (.inl t_columnFactors)))))] H → va_D A0 [(q_t, .inr (9, [.ref q_t_z, .ref q_t_old, .ref q_t_past, .int t_states, .ref q_t_kept, .int t_isKept, .ref q_t_text, .int t_length, .ref q_t_order, .ref q_t_told, .int t_spot, .int t_toldRows, .ref q_t_rowsTaken, .ref q_t_columnsTaken, .ref q_t_ways, .ref q_t_scaled, .ref q_t_rowFactors, .ref q_t_columnFactors, .ref q_t_rest, .ref q_t_diagonals, .ref q_t_weights])), (q_t_z, .inl (G.2 0, 50, .inl t_z)), (q_t_scaled, .inl (G.2 2, 49, .inr (.inr (.inr (.inl t_scaled))))), (q_t_rowFactors, .inl (G.2 2, 7, .inr (.inr (.inr (.inl t_rowFactors))))), (q_t_columnFactors, .inl (G.2 2, 7, .inr (.inr (.inr (.inl t_columnFactors)))))] → va_S A0 H0 H locs → lv_has ls 4 [(0, .ref q_t), (1, .int x1), (2, .int x2)] → W p l e ({ frames := 2, cells := 0, slots := 0, locals := 50 } : Room) s m args below meth c H locs 0 0 Q (F0 m 57 ls []) := by
  obtain ⟨hx, hb, hml, hown, hts⟩ := C
  intro n
  induction n with
  | zero => intro x2 t_scaled t_rowFactors t_columnFactors h; exact absurd h (fun h => lp_0 h)
  | succ n ih =>
    intro x2 t_scaled t_rowFactors t_columnFactors h H locs ls hP hD hS hl
    obtain ⟨y, h, hk⟩ := lp_s h
    rw [f_X10_sweep_L3] at h
    refine lv_iload_n hx hb dX10_sweep_57 rfl (lv_at hl 2 rfl) ?_
    refine lv_iload_n hx hb dX10_sweep_58 rfl (lv_at hl 1 rfl) ?_
    refine lv_icmp_ge (tgt := 118) hx hb dX10_sweep_59 (by decide) (fun c_19 => ?_) (fun c_19 => ?_)
    · replace h := it_t h c_19
      obtain rfl := sm1 h
      obtain ⟨rfl, rfl, rfl⟩ := sm3 hk
      exact K H locs ls hP hD hS (lv_sub hl [] rfl)
    · replace h := it_f h c_19
      refine lv_iconst (v := 0) hx hb dX10_sweep_62 (by decide) ?_
      refine lv_istore_n (lv' := [(3, .int (0 : Int32)), (0, .ref q_t), (1, .int x1), (2, .int x2)]) hx hb dX10_sweep_63 rfl hl (by decide) rfl (fun ls hl => ?_)
      obtain ⟨⟨t_scaled_27, t_rowFactors_28, t_columnFactors_29⟩, hz_31, h⟩ := bd_ok h
      refine l_X10_sweep_4 ⟨hx, hb, hml, hown, hts⟩ G hK hA q_t q_t_z q_t_old q_t_past q_t_kept q_t_text q_t_order q_t_told q_t_rowsTaken q_t_columnsTaken q_t_ways q_t_scaled q_t_rowFactors q_t_columnFactors q_t_rest q_t_diagonals q_t_weights x1 x2 t_states t_isKept t_length t_spot t_toldRows t_z t_scaled_27 t_rowFactors_28 t_columnFactors_29 ?_ FU (0 : Int32) t_scaled t_rowFactors t_columnFactors hz_31 H locs ls hP hD hS (lv_sub hl [1, 2, 3, 0] rfl)
      intro H locs ls hP hD hS hl
      refine lv_iconst (v := 0) hx hb dX10_sweep_87 (by decide) ?_
      refine lv_istore_n (lv' := [(3, .int (0 : Int32)), (0, .ref q_t), (1, .int x1), (2, .int x2)]) hx hb dX10_sweep_88 rfl hl (by decide) rfl (fun ls hl => ?_)
      obtain ⟨⟨t_scaled_39, t_rowFactors_40, t_columnFactors_41⟩, hz_43, h⟩ := bd_ok h
      refine l_X10_sweep_5 ⟨hx, hb, hml, hown, hts⟩ G hK hA q_t q_t_z q_t_old q_t_past q_t_kept q_t_text q_t_order q_t_told q_t_rowsTaken q_t_columnsTaken q_t_ways q_t_scaled q_t_rowFactors q_t_columnFactors q_t_rest q_t_diagonals q_t_weights x1 x2 t_states t_isKept t_length t_spot t_toldRows t_z t_scaled_39 t_rowFactors_40 t_columnFactors_41 ?_ FU (0 : Int32) t_scaled_27 t_rowFactors_28 t_columnFactors_29 hz_43 H locs ls hP hD hS (lv_sub hl [1, 2, 3, 0] rfl)
      intro H locs ls hP hD hS hl
      obtain ⟨x2_44, ex2_44, h⟩ := pl_ok h
      refine lv_iinc (v := x2_44) (lv' := [(2, .int x2_44), (0, .ref q_t), (1, .int x1)]) hx hb dX10_sweep_112 hl (k := 2) rfl (by rw [ex2_44]; rfl) (by decide) rfl (fun ls hl => ?_)
      refine lv_goto (tgt := 57) hx hb dX10_sweep_115 (by decide) ?_
      obtain rfl := sm1 h
      exact ih x2_44 t_scaled_39 t_rowFactors_40 t_columnFactors_41 hk H locs ls hP hD hS (lv_sub hl [1, 2, 0] rfl)
set_option maxHeartbeats 4000000 in
set_option maxRecDepth 100000 in
theorem k_X10_sweep {p : Program} {l : Launch} {e : Env} {s : State} {m : MethodId} {args : Array Value} {below : List Frame} {meth : Method} {c : Code} {Q : State → Prop} {A0 : Nat → Prop} {H0 : Heap} (C : CallFix p m c cX10_sweep 4 s args wsX10_sweep RX10) (G : GT) (hK : gK G s) (hA : ∀ q : Nat, H0.size ≤ q → A0 q) (q_t q_t_z q_t_old q_t_past q_t_kept q_t_text q_t_order q_t_told q_t_rowsTaken q_t_columnsTaken q_t_ways q_t_scaled q_t_rowFactors q_t_columnFactors q_t_rest q_t_diagonals q_t_weights : Nat) (t_states : Int32) (t_isKept : Int32) (t_length : Int32) (t_spot : Int32) (t_toldRows : Int32) (t_z : Nat → Int32) (t_scaled : Nat → UInt64) (t_rowFactors : Nat → UInt64) (t_columnFactors : Nat → UInt64) (a1 : Int32) (o_t_scaled : Nat → UInt64) (o_t_rowFactors : Nat → UInt64) (o_t_columnFactors : Nat → UInt64) (h : f_X10_sweep t_z t_scaled t_rowFactors t_columnFactors a1 = some (o_t_scaled, o_t_rowFactors, o_t_columnFactors)) (KR : ∀ (H : Heap) (locs : List Loc) (ls : Array Slot) (pc : Nat), decode cX10_sweep pc = .ok (.return_, 1) → va_P G.1 vwCl [(q_t, .inr (9, [.ref q_t_z, .ref q_t_old, .ref q_t_past, .int t_states, .ref q_t_kept, .int t_isKept, .ref q_t_text, .int t_length, .ref q_t_order, .ref q_t_told, .int t_spot, .int t_toldRows, .ref q_t_rowsTaken, .ref q_t_columnsTaken, .ref q_t_ways, .ref q_t_scaled, .ref q_t_rowFactors, .ref q_t_columnFactors, .ref q_t_rest, .ref q_t_diagonals, .ref q_t_weights])), (q_t_z, .inl (G.2 0, 50, .inl t_z)), (q_t_scaled, .inl (G.2 2, 49, .inr (.inr (.inr (.inl o_t_scaled))))), (q_t_rowFactors, .inl (G.2 2, 7, .inr (.inr (.inr (.inl o_t_rowFactors))))), (q_t_columnFactors, .inl (G.2 2, 7, .inr (.inr (.inr (.inl o_t_columnFactors)))))] H → va_D A0 [(q_t, .inr (9, [.ref q_t_z, .ref q_t_old, .ref q_t_past, .int t_states, .ref q_t_kept, .int t_isKept, .ref q_t_text, .int t_length, .ref q_t_order, .ref q_t_told, .int t_spot, .int t_toldRows, .ref q_t_rowsTaken, .ref q_t_columnsTaken, .ref q_t_ways, .ref q_t_scaled, .ref q_t_rowFactors, .ref q_t_columnFactors, .ref q_t_rest, .ref q_t_diagonals, .ref q_t_weights])), (q_t_z, .inl (G.2 0, 50, .inl t_z)), (q_t_scaled, .inl (G.2 2, 49, .inr (.inr (.inr (.inl o_t_scaled))))), (q_t_rowFactors, .inl (G.2 2, 7, .inr (.inr (.inr (.inl o_t_rowFactors))))), (q_t_columnFactors, .inl (G.2 2, 7, .inr (.inr (.inr (.inl o_t_columnFactors)))))] → va_S A0 H0 H locs → W p l e ({ frames := 2, cells := 0, slots := 0, locals := 50 } : Room) s m args below meth c H locs 0 0 Q (F0 m pc ls [])) : ∀ (H : Heap) (locs : List Loc) (ls : Array Slot), va_P G.1 vwCl [(q_t, .inr (9, [.ref q_t_z, .ref q_t_old, .ref q_t_past, .int t_states, .ref q_t_kept, .int t_isKept, .ref q_t_text, .int t_length, .ref q_t_order, .ref q_t_told, .int t_spot, .int t_toldRows, .ref q_t_rowsTaken, .ref q_t_columnsTaken, .ref q_t_ways, .ref q_t_scaled, .ref q_t_rowFactors, .ref q_t_columnFactors, .ref q_t_rest, .ref q_t_diagonals, .ref q_t_weights])), (q_t_z, .inl (G.2 0, 50, .inl t_z)), (q_t_scaled, .inl (G.2 2, 49, .inr (.inr (.inr (.inl t_scaled))))), (q_t_rowFactors, .inl (G.2 2, 7, .inr (.inr (.inr (.inl t_rowFactors))))), (q_t_columnFactors, .inl (G.2 2, 7, .inr (.inr (.inr (.inl t_columnFactors)))))] H → va_D A0 [(q_t, .inr (9, [.ref q_t_z, .ref q_t_old, .ref q_t_past, .int t_states, .ref q_t_kept, .int t_isKept, .ref q_t_text, .int t_length, .ref q_t_order, .ref q_t_told, .int t_spot, .int t_toldRows, .ref q_t_rowsTaken, .ref q_t_columnsTaken, .ref q_t_ways, .ref q_t_scaled, .ref q_t_rowFactors, .ref q_t_columnFactors, .ref q_t_rest, .ref q_t_diagonals, .ref q_t_weights])), (q_t_z, .inl (G.2 0, 50, .inl t_z)), (q_t_scaled, .inl (G.2 2, 49, .inr (.inr (.inr (.inl t_scaled))))), (q_t_rowFactors, .inl (G.2 2, 7, .inr (.inr (.inr (.inl t_rowFactors))))), (q_t_columnFactors, .inl (G.2 2, 7, .inr (.inr (.inr (.inl t_columnFactors)))))] → va_S A0 H0 H locs → lv_has ls 4 [(0, .ref q_t), (1, .int a1)] → W p l e ({ frames := 2, cells := 0, slots := 0, locals := 50 } : Room) s m args below meth c H locs 0 0 Q (F0 m 0 ls []) := by
  obtain ⟨hx, hb, hml, hown, hts⟩ := C
  intro H locs ls hP hD hS hl
  rw [f_X10_sweep] at h
  refine lv_iconst (v := 0) hx hb dX10_sweep_0 (by decide) ?_
  refine lv_istore_n (lv' := [(2, .int (0 : Int32)), (0, .ref q_t), (1, .int a1)]) hx hb dX10_sweep_1 rfl hl (by decide) rfl (fun ls hl => ?_)
  obtain ⟨t_scaled_6, hz_8, h⟩ := bd_ok h
  refine l_X10_sweep_1 ⟨hx, hb, hml, hown, hts⟩ G hK hA q_t q_t_z q_t_old q_t_past q_t_kept q_t_text q_t_order q_t_told q_t_rowsTaken q_t_columnsTaken q_t_ways q_t_scaled q_t_rowFactors q_t_columnFactors q_t_rest q_t_diagonals q_t_weights a1 t_states t_isKept t_length t_spot t_toldRows t_z t_rowFactors t_columnFactors t_scaled_6 ?_ FU (0 : Int32) t_scaled hz_8 H locs ls hP hD hS (lv_sub hl [1, 2, 0] rfl)
  intro H locs ls hP hD hS hl
  refine lv_iconst (v := 0) hx hb dX10_sweep_27 (by decide) ?_
  refine lv_istore_n (lv' := [(2, .int (0 : Int32)), (0, .ref q_t), (1, .int a1)]) hx hb dX10_sweep_28 rfl hl (by decide) rfl (fun ls hl => ?_)
  obtain ⟨⟨t_rowFactors_15, t_columnFactors_16⟩, hz_18, h⟩ := bd_ok h
  refine l_X10_sweep_2 ⟨hx, hb, hml, hown, hts⟩ G hK hA q_t q_t_z q_t_old q_t_past q_t_kept q_t_text q_t_order q_t_told q_t_rowsTaken q_t_columnsTaken q_t_ways q_t_scaled q_t_rowFactors q_t_columnFactors q_t_rest q_t_diagonals q_t_weights a1 t_states t_isKept t_length t_spot t_toldRows t_z t_scaled_6 t_rowFactors_15 t_columnFactors_16 ?_ FU (0 : Int32) t_rowFactors t_columnFactors hz_18 H locs ls hP hD hS (lv_sub hl [1, 2, 0] rfl)
  intro H locs ls hP hD hS hl
  refine lv_iconst (v := 0) hx hb dX10_sweep_55 (by decide) ?_
  refine lv_istore_n (lv' := [(2, .int (0 : Int32)), (0, .ref q_t), (1, .int a1)]) hx hb dX10_sweep_56 rfl hl (by decide) rfl (fun ls hl => ?_)
  obtain ⟨⟨t_scaled_45, t_rowFactors_46, t_columnFactors_47⟩, hz_49, h⟩ := bd_ok h
  refine l_X10_sweep_3 ⟨hx, hb, hml, hown, hts⟩ G hK hA q_t q_t_z q_t_old q_t_past q_t_kept q_t_text q_t_order q_t_told q_t_rowsTaken q_t_columnsTaken q_t_ways q_t_scaled q_t_rowFactors q_t_columnFactors q_t_rest q_t_diagonals q_t_weights a1 t_states t_isKept t_length t_spot t_toldRows t_z t_scaled_45 t_rowFactors_46 t_columnFactors_47 ?_ FU (0 : Int32) t_scaled_6 t_rowFactors_15 t_columnFactors_16 hz_49 H locs ls hP hD hS (lv_sub hl [1, 2, 0] rfl)
  intro H locs ls hP hD hS hl
  obtain ⟨rfl, rfl, rfl⟩ := sm3 h
  exact KR H locs ls 118 dX10_sweep_118 hP hD hS
set_option maxHeartbeats 4000000 in
set_option maxRecDepth 100000 in
theorem c_X10_sweep (l : Launch) (G : GT) (q_t q_t_z q_t_old q_t_past q_t_kept q_t_text q_t_order q_t_told q_t_rowsTaken q_t_columnsTaken q_t_ways q_t_scaled q_t_rowFactors q_t_columnFactors q_t_rest q_t_diagonals q_t_weights : Nat) (sz : Nat) (t_states : Int32) (t_isKept : Int32) (t_length : Int32) (t_spot : Int32) (t_toldRows : Int32) (t_z : Nat → Int32) (t_scaled : Nat → UInt64) (t_rowFactors : Nat → UInt64) (t_columnFactors : Nat → UInt64) (a1 : Int32) (o_t_scaled : Nat → UInt64) (o_t_rowFactors : Nat → UInt64) (o_t_columnFactors : Nat → UInt64) (h : f_X10_sweep t_z t_scaled t_rowFactors t_columnFactors a1 = some (o_t_scaled, o_t_rowFactors, o_t_columnFactors)) : Met l yX10_sweep wsX10_sweep ({ frames := 2, cells := 0, slots := 0, locals := 50 } : Room) (va_Pc [.ref q_t, .int a1] (pcW G [(q_t, .inr (9, [.ref q_t_z, .ref q_t_old, .ref q_t_past, .int t_states, .ref q_t_kept, .int t_isKept, .ref q_t_text, .int t_length, .ref q_t_order, .ref q_t_told, .int t_spot, .int t_toldRows, .ref q_t_rowsTaken, .ref q_t_columnsTaken, .ref q_t_ways, .ref q_t_scaled, .ref q_t_rowFactors, .ref q_t_columnFactors, .ref q_t_rest, .ref q_t_diagonals, .ref q_t_weights])), (q_t_z, .inl (G.2 0, 50, .inl t_z)), (q_t_scaled, .inl (G.2 2, 49, .inr (.inr (.inr (.inl t_scaled))))), (q_t_rowFactors, .inl (G.2 2, 7, .inr (.inr (.inr (.inl t_rowFactors))))), (q_t_columnFactors, .inl (G.2 2, 7, .inr (.inr (.inr (.inl t_columnFactors)))))] sz)) (va_Qv (fun (_ : Unit) => True) (fun _ t => atW G (va_A [(q_t, .inr (9, [.ref q_t_z, .ref q_t_old, .ref q_t_past, .int t_states, .ref q_t_kept, .int t_isKept, .ref q_t_text, .int t_length, .ref q_t_order, .ref q_t_told, .int t_spot, .int t_toldRows, .ref q_t_rowsTaken, .ref q_t_columnsTaken, .ref q_t_ways, .ref q_t_scaled, .ref q_t_rowFactors, .ref q_t_columnFactors, .ref q_t_rest, .ref q_t_diagonals, .ref q_t_weights])), (q_t_z, .inl (G.2 0, 50, .inl t_z)), (q_t_scaled, .inl (G.2 2, 49, .inr (.inr (.inr (.inl t_scaled))))), (q_t_rowFactors, .inl (G.2 2, 7, .inr (.inr (.inr (.inl t_rowFactors))))), (q_t_columnFactors, .inl (G.2 2, 7, .inr (.inr (.inr (.inl t_columnFactors)))))] sz) [(q_t, .inr (9, [.ref q_t_z, .ref q_t_old, .ref q_t_past, .int t_states, .ref q_t_kept, .int t_isKept, .ref q_t_text, .int t_length, .ref q_t_order, .ref q_t_told, .int t_spot, .int t_toldRows, .ref q_t_rowsTaken, .ref q_t_columnsTaken, .ref q_t_ways, .ref q_t_scaled, .ref q_t_rowFactors, .ref q_t_columnFactors, .ref q_t_rest, .ref q_t_diagonals, .ref q_t_weights])), (q_t_z, .inl (G.2 0, 50, .inl t_z)), (q_t_scaled, .inl (G.2 2, 49, .inr (.inr (.inr (.inl o_t_scaled))))), (q_t_rowFactors, .inl (G.2 2, 7, .inr (.inr (.inr (.inl o_t_rowFactors))))), (q_t_columnFactors, .inl (G.2 2, 7, .inr (.inr (.inr (.inl o_t_columnFactors)))))] t) (va_A [(q_t, .inr (9, [.ref q_t_z, .ref q_t_old, .ref q_t_past, .int t_states, .ref q_t_kept, .int t_isKept, .ref q_t_text, .int t_length, .ref q_t_order, .ref q_t_told, .int t_spot, .int t_toldRows, .ref q_t_rowsTaken, .ref q_t_columnsTaken, .ref q_t_ways, .ref q_t_scaled, .ref q_t_rowFactors, .ref q_t_columnFactors, .ref q_t_rest, .ref q_t_diagonals, .ref q_t_weights])), (q_t_z, .inl (G.2 0, 50, .inl t_z)), (q_t_scaled, .inl (G.2 2, 49, .inr (.inr (.inr (.inl t_scaled))))), (q_t_rowFactors, .inl (G.2 2, 7, .inr (.inr (.inr (.inl t_rowFactors))))), (q_t_columnFactors, .inl (G.2 2, 7, .inr (.inr (.inr (.inl t_columnFactors)))))] sz)) 0 0 (va_A [(q_t, .inr (9, [.ref q_t_z, .ref q_t_old, .ref q_t_past, .int t_states, .ref q_t_kept, .int t_isKept, .ref q_t_text, .int t_length, .ref q_t_order, .ref q_t_told, .int t_spot, .int t_toldRows, .ref q_t_rowsTaken, .ref q_t_columnsTaken, .ref q_t_ways, .ref q_t_scaled, .ref q_t_rowFactors, .ref q_t_columnFactors, .ref q_t_rest, .ref q_t_diagonals, .ref q_t_weights])), (q_t_z, .inl (G.2 0, 50, .inl t_z)), (q_t_scaled, .inl (G.2 2, 49, .inr (.inr (.inr (.inl t_scaled))))), (q_t_rowFactors, .inl (G.2 2, 7, .inr (.inr (.inr (.inl t_rowFactors))))), (q_t_columnFactors, .inl (G.2 2, 7, .inr (.inr (.inr (.inl t_columnFactors)))))] sz) := by
  refine Met.ofW (cc := cX10_sweep) (maxL := 4) (ret := none) (by decide) rfl ?_
  intro p e s m args below meth c s₁ B hml hv
  obtain ⟨rfl, hsz, hP, hK, hD0⟩ := hv
  subst hsz
  have hD := hD0.self (sz := s.heap.size)
  generalize hAe : va_A [(q_t, .inr (9, [.ref q_t_z, .ref q_t_old, .ref q_t_past, .int t_states, .ref q_t_kept, .int t_isKept, .ref q_t_text, .int t_length, .ref q_t_order, .ref q_t_told, .int t_spot, .int t_toldRows, .ref q_t_rowsTaken, .ref q_t_columnsTaken, .ref q_t_ways, .ref q_t_scaled, .ref q_t_rowFactors, .ref q_t_columnFactors, .ref q_t_rest, .ref q_t_diagonals, .ref q_t_weights])), (q_t_z, .inl (G.2 0, 50, .inl t_z)), (q_t_scaled, .inl (G.2 2, 49, .inr (.inr (.inr (.inl t_scaled))))), (q_t_rowFactors, .inl (G.2 2, 7, .inr (.inr (.inr (.inl t_rowFactors))))), (q_t_columnFactors, .inl (G.2 2, 7, .inr (.inr (.inr (.inl t_columnFactors)))))] s.heap.size = A at hD ⊢
  have hA : ∀ q : Nat, s.heap.size ≤ q → A q := fun q h => by rw [← hAe]; exact Or.inr h
  have hl := lv_entry ([.ref q_t, .int a1]) (n := 4) (Nat.le_of_ble_eq_true rfl)
  rw [lg_entry_eq]
  refine k_X10_sweep ⟨B.exec, B.bytes, hml, findClass_of_methodNamed B.named, atoms_spec (ws := wsX10_sweep) B.pre⟩ G hK hA q_t q_t_z q_t_old q_t_past q_t_kept q_t_text q_t_order q_t_told q_t_rowsTaken q_t_columnsTaken q_t_ways q_t_scaled q_t_rowFactors q_t_columnFactors q_t_rest q_t_diagonals q_t_weights _ _ _ _ _ _ _ _ _ _ _ _ _ h ?_ _ _ _ hP hD va_S.rf hl
  intro H locs ls pc hd hP hD hS
  exact W.vret B.exec B.bytes B.returns (fun t ht hW => ⟨⟨(), rfl, trivial, by rw [ht]; exact hP, hD⟩, hS.F ht⟩) hS.2.2 hd B.notSynchronized
def f_X10_isSweeps (a1 : Int32) : Option Int32 :=
  (f_X10_in a1 (0 : Int32) (50 : Int32)).bind (fun r_1 =>
  gd (r_1 = 0 ∨ r_1 = 1) (
  some r_1))
set_option maxHeartbeats 4000000 in
set_option maxRecDepth 100000 in
theorem k_X10_isSweeps {p : Program} {l : Launch} {e : Env} {s : State} {m : MethodId} {args : Array Value} {below : List Frame} {meth : Method} {c : Code} {Q : State → Prop} {A0 : Nat → Prop} {H0 : Heap} (C : CallFix p m c cX10_isSweeps 1 s args wsX10_isSweeps RX10) (G : GT) (hK : gK G s) (hA : ∀ q : Nat, H0.size ≤ q → A0 q) (a1 : Int32) (r : Int32) (h : f_X10_isSweeps a1 = some r) (KR : ∀ (H : Heap) (locs : List Loc) (ls : Array Slot) (pc : Nat), decode cX10_isSweeps pc = .ok (.ireturn, 1) → (r = 0 ∨ r = 1) → va_P G.1 vwCl [] H → va_D A0 [] → va_S A0 H0 H locs → W p l e ({ frames := 1, cells := 0, slots := 0, locals := 22 } : Room) s m args below meth c H locs 0 0 Q (F0 m pc ls [.int r])) : ∀ (H : Heap) (locs : List Loc) (ls : Array Slot), va_P G.1 vwCl [] H → va_D A0 [] → va_S A0 H0 H locs → lv_has ls 1 [(0, .int a1)] → W p l e ({ frames := 1, cells := 0, slots := 0, locals := 22 } : Room) s m args below meth c H locs 0 0 Q (F0 m 0 ls []) := by
  obtain ⟨hx, hb, hml, hown, hts⟩ := C
  intro H locs ls hP hD hS hl
  rw [f_X10_isSweeps] at h
  refine lv_iload_n hx hb dX10_isSweeps_0 rfl (lv_at hl 0 rfl) ?_
  refine lv_iconst (v := 0) hx hb dX10_isSweeps_1 (by decide) ?_
  refine lv_bipush (v := 50) hx hb dX10_isSweeps_2 (by decide) ?_
  obtain ⟨r_1, hf_2, h⟩ := bd_ok h
  refine ck_Si (rest := []) (wn := []) ⟨hx, hb, hml, hown, hts⟩ hK hP hD hS hA [] [] [] (c_X10_in l G _ a1 (0 : Int32) (50 : Int32) _ hf_2) (cwS 3 hts gX10_isSweeps_X10_in rfl rfl rfl (by decide +kernel) ⟨Nat.le_of_ble_eq_true rfl, Nat.le_of_ble_eq_true rfl⟩) rfl rfl rfl rfl (by decide) rfl rfl rfl hl.1 rfl (Nat.le_of_ble_eq_true rfl) dX10_isSweeps_4 ⟨Nat.zero_le _, Nat.zero_le _⟩ (fun H locs hP hD hS => ?_)
  obtain ⟨g_3, h⟩ := gd_ok h
  obtain rfl := sm1 h
  exact KR H locs ls 7 dX10_isSweeps_7 g_3 hP hD hS
set_option maxHeartbeats 4000000 in
set_option maxRecDepth 100000 in
theorem c_X10_isSweeps (l : Launch) (G : GT) (sz : Nat) (a1 : Int32) (r : Int32) (h : f_X10_isSweeps a1 = some r) : Met l yX10_isSweeps wsX10_isSweeps ({ frames := 1, cells := 0, slots := 0, locals := 22 } : Room) (va_Pc [.int a1] (pcW G [] sz)) (va_Qi (fun r9 (_ : Unit) => r9 = r) (fun _ t => atW G (va_A [] sz) [] t) (va_A [] sz)) 0 0 (va_A [] sz) := by
  refine Met.ofW (cc := cX10_isSweeps) (maxL := 1) (ret := (some .boolean)) (by decide) rfl ?_
  intro p e s m args below meth c s₁ B hml hv
  obtain ⟨rfl, hsz, hP, hK, hD0⟩ := hv
  subst hsz
  have hD := hD0.self (sz := s.heap.size)
  generalize hAe : va_A [] s.heap.size = A at hD ⊢
  have hA : ∀ q : Nat, s.heap.size ≤ q → A q := fun q h => by rw [← hAe]; exact Or.inr h
  have hl := lv_entry ([.int a1]) (n := 1) (Nat.le_of_ble_eq_true rfl)
  rw [lg_entry_eq]
  refine k_X10_isSweeps ⟨B.exec, B.bytes, hml, findClass_of_methodNamed B.named, atoms_spec (ws := wsX10_isSweeps) B.pre⟩ G hK hA _ _ h ?_ _ _ _ hP hD va_S.rf hl
  intro H locs ls pc hd hbo hP hD hS
  exact W.zret B.exec B.bytes B.returns (by rcases hbo with e | e <;> subst e <;> rfl) (fun t ht hW => ⟨⟨r, (), rfl, rfl, by rw [ht]; exact hP, hD⟩, hS.F ht⟩) hS.2.2 hd B.notSynchronized
set_option maxRecDepth 20000 in
theorem wd_X10_scaledBits_1 : Cond.constantLong RX10 177 (-9000000000000000001) ∈ wsX10_scaledBits := List.mem_of_getElem? (i := 1) (by decide +kernel)
set_option maxRecDepth 20000 in
theorem wd_X10_scaledBits_3 : Cond.constantLong RX10 189 (-9000000000000000002) ∈ wsX10_scaledBits := List.mem_of_getElem? (i := 3) (by decide +kernel)
set_option maxRecDepth 20000 in
theorem wd_X10_scaledBits_2 : Cond.constantLong RX10 183 (-9000000000000000004) ∈ wsX10_scaledBits := List.mem_of_getElem? (i := 2) (by decide +kernel)
set_option maxRecDepth 20000 in
theorem wd_X10_scaledBits_4 : Cond.fieldLink RX10 40 "PermanentDeskModel" "scaled" "[D" ∈ wsX10_scaledBits := List.mem_of_getElem? (i := 4) (by decide +kernel)
set_option maxRecDepth 20000 in
theorem wi_X10_scaledBits_X10 : ∀ w ∈ u_ws RX10 TX10 21, w ∈ wsX10_scaledBits := by decide +kernel
def f_X10_scaledBits (t_z : Nat → Int32) (t_scaled : Nat → UInt64) (t_rowFactors : Nat → UInt64) (t_columnFactors : Nat → UInt64) (a1 : Int32) (a2 : Int32) (a3 : Int32) : Option (Int64 × (Nat → UInt64) × (Nat → UInt64) × (Nat → UInt64)) :=
  (f_X10_isLine t_z a1).bind (fun r_1 =>
  if r_1 = 0 then
    some ((-9000000000000000001 : Int64), t_scaled, t_rowFactors, t_columnFactors)
  else
    (f_X10_isLine t_z a2).bind (fun r_4 =>
    if r_4 = 0 then
      some ((-9000000000000000001 : Int64), t_scaled, t_rowFactors, t_columnFactors)
    else
      (f_X10_isSweeps a3).bind (fun r_7 =>
      if r_7 = 0 then
        (f_X10_isSweeps a3).bind (fun r_10 =>
        if r_10 = 0 then
          some ((-9000000000000000002 : Int64), t_scaled, t_rowFactors, t_columnFactors)
        else
          some ((-9000000000000000004 : Int64), t_scaled, t_rowFactors, t_columnFactors))
      else
        (f_X10_canScale t_z).bind (fun r_13 =>
        if r_13 = 0 then
          (f_X10_isSweeps a3).bind (fun r_23 =>
          if r_23 = 0 then
            some ((-9000000000000000002 : Int64), t_scaled, t_rowFactors, t_columnFactors)
          else
            some ((-9000000000000000004 : Int64), t_scaled, t_rowFactors, t_columnFactors))
        else
          (f_X10_sweep t_z t_scaled t_rowFactors t_columnFactors a3).bind (fun (t_scaled_16, t_rowFactors_17, t_columnFactors_18) =>
          gd (okI (((7 : Int32) * a1) + a2) 49) (
          (f_Jxe99ae_doubleToLongBits_ccdee (t_scaled_16 (((7 : Int32) * a1) + a2).toNatClampNeg)).bind (fun r_21 =>
          some (r_21, t_scaled_16, t_rowFactors_17, t_columnFactors_18))))))))
set_option maxHeartbeats 4000000 in
set_option maxRecDepth 100000 in
theorem k_X10_scaledBits {p : Program} {l : Launch} {e : Env} {s : State} {m : MethodId} {args : Array Value} {below : List Frame} {meth : Method} {c : Code} {Q : State → Prop} {A0 : Nat → Prop} {H0 : Heap} (C : CallFix p m c cX10_scaledBits 4 s args wsX10_scaledBits RX10) (G : GT) (hK : gK G s) (hA : ∀ q : Nat, H0.size ≤ q → A0 q) (q_t q_t_z q_t_old q_t_past q_t_kept q_t_text q_t_order q_t_told q_t_rowsTaken q_t_columnsTaken q_t_ways q_t_scaled q_t_rowFactors q_t_columnFactors q_t_rest q_t_diagonals q_t_weights : Nat) (t_states : Int32) (t_isKept : Int32) (t_length : Int32) (t_spot : Int32) (t_toldRows : Int32) (t_z : Nat → Int32) (t_scaled : Nat → UInt64) (t_rowFactors : Nat → UInt64) (t_columnFactors : Nat → UInt64) (a1 : Int32) (a2 : Int32) (a3 : Int32) (r : Int64) (o_t_scaled : Nat → UInt64) (o_t_rowFactors : Nat → UInt64) (o_t_columnFactors : Nat → UInt64) (h : f_X10_scaledBits t_z t_scaled t_rowFactors t_columnFactors a1 a2 a3 = some (r, o_t_scaled, o_t_rowFactors, o_t_columnFactors)) (KR : ∀ (H : Heap) (locs : List Loc) (ls : Array Slot) (pc : Nat), decode cX10_scaledBits pc = .ok (.lreturn, 1) → va_P G.1 vwCl [(q_t, .inr (9, [.ref q_t_z, .ref q_t_old, .ref q_t_past, .int t_states, .ref q_t_kept, .int t_isKept, .ref q_t_text, .int t_length, .ref q_t_order, .ref q_t_told, .int t_spot, .int t_toldRows, .ref q_t_rowsTaken, .ref q_t_columnsTaken, .ref q_t_ways, .ref q_t_scaled, .ref q_t_rowFactors, .ref q_t_columnFactors, .ref q_t_rest, .ref q_t_diagonals, .ref q_t_weights])), (q_t_z, .inl (G.2 0, 50, .inl t_z)), (q_t_scaled, .inl (G.2 2, 49, .inr (.inr (.inr (.inl o_t_scaled))))), (q_t_rowFactors, .inl (G.2 2, 7, .inr (.inr (.inr (.inl o_t_rowFactors))))), (q_t_columnFactors, .inl (G.2 2, 7, .inr (.inr (.inr (.inl o_t_columnFactors)))))] H → va_D A0 [(q_t, .inr (9, [.ref q_t_z, .ref q_t_old, .ref q_t_past, .int t_states, .ref q_t_kept, .int t_isKept, .ref q_t_text, .int t_length, .ref q_t_order, .ref q_t_told, .int t_spot, .int t_toldRows, .ref q_t_rowsTaken, .ref q_t_columnsTaken, .ref q_t_ways, .ref q_t_scaled, .ref q_t_rowFactors, .ref q_t_columnFactors, .ref q_t_rest, .ref q_t_diagonals, .ref q_t_weights])), (q_t_z, .inl (G.2 0, 50, .inl t_z)), (q_t_scaled, .inl (G.2 2, 49, .inr (.inr (.inr (.inl o_t_scaled))))), (q_t_rowFactors, .inl (G.2 2, 7, .inr (.inr (.inr (.inl o_t_rowFactors))))), (q_t_columnFactors, .inl (G.2 2, 7, .inr (.inr (.inr (.inl o_t_columnFactors)))))] → va_S A0 H0 H locs → W p l e ({ frames := 3, cells := 0, slots := 0, locals := 81 } : Room) s m args below meth c H locs 0 0 Q (F0 m pc ls [.long r])) : ∀ (H : Heap) (locs : List Loc) (ls : Array Slot), va_P G.1 vwCl [(q_t, .inr (9, [.ref q_t_z, .ref q_t_old, .ref q_t_past, .int t_states, .ref q_t_kept, .int t_isKept, .ref q_t_text, .int t_length, .ref q_t_order, .ref q_t_told, .int t_spot, .int t_toldRows, .ref q_t_rowsTaken, .ref q_t_columnsTaken, .ref q_t_ways, .ref q_t_scaled, .ref q_t_rowFactors, .ref q_t_columnFactors, .ref q_t_rest, .ref q_t_diagonals, .ref q_t_weights])), (q_t_z, .inl (G.2 0, 50, .inl t_z)), (q_t_scaled, .inl (G.2 2, 49, .inr (.inr (.inr (.inl t_scaled))))), (q_t_rowFactors, .inl (G.2 2, 7, .inr (.inr (.inr (.inl t_rowFactors))))), (q_t_columnFactors, .inl (G.2 2, 7, .inr (.inr (.inr (.inl t_columnFactors)))))] H → va_D A0 [(q_t, .inr (9, [.ref q_t_z, .ref q_t_old, .ref q_t_past, .int t_states, .ref q_t_kept, .int t_isKept, .ref q_t_text, .int t_length, .ref q_t_order, .ref q_t_told, .int t_spot, .int t_toldRows, .ref q_t_rowsTaken, .ref q_t_columnsTaken, .ref q_t_ways, .ref q_t_scaled, .ref q_t_rowFactors, .ref q_t_columnFactors, .ref q_t_rest, .ref q_t_diagonals, .ref q_t_weights])), (q_t_z, .inl (G.2 0, 50, .inl t_z)), (q_t_scaled, .inl (G.2 2, 49, .inr (.inr (.inr (.inl t_scaled))))), (q_t_rowFactors, .inl (G.2 2, 7, .inr (.inr (.inr (.inl t_rowFactors))))), (q_t_columnFactors, .inl (G.2 2, 7, .inr (.inr (.inr (.inl t_columnFactors)))))] → va_S A0 H0 H locs → lv_has ls 4 [(0, .ref q_t), (1, .int a1), (2, .int a2), (3, .int a3)] → W p l e ({ frames := 3, cells := 0, slots := 0, locals := 81 } : Room) s m args below meth c H locs 0 0 Q (F0 m 0 ls []) := by
  obtain ⟨hx, hb, hml, hown, hts⟩ := C
  intro H locs ls hP hD hS hl
  rw [f_X10_scaledBits] at h
  refine lv_aload_n hx hb dX10_scaledBits_0 rfl (lv_at hl 0 rfl) ?_
  refine lv_iload_n hx hb dX10_scaledBits_1 rfl (lv_at hl 1 rfl) ?_
  obtain ⟨r_1, hf_2, h⟩ := bd_ok h
  refine ck_Vi (rest := []) (wn := [(q_t, .inr (9, [.ref q_t_z, .ref q_t_old, .ref q_t_past, .int t_states, .ref q_t_kept, .int t_isKept, .ref q_t_text, .int t_length, .ref q_t_order, .ref q_t_told, .int t_spot, .int t_toldRows, .ref q_t_rowsTaken, .ref q_t_columnsTaken, .ref q_t_ways, .ref q_t_scaled, .ref q_t_rowFactors, .ref q_t_columnFactors, .ref q_t_rest, .ref q_t_diagonals, .ref q_t_weights])), (q_t_z, .inl (G.2 0, 50, .inl t_z)), (q_t_scaled, .inl (G.2 2, 49, .inr (.inr (.inr (.inl t_scaled))))), (q_t_rowFactors, .inl (G.2 2, 7, .inr (.inr (.inr (.inl t_rowFactors))))), (q_t_columnFactors, .inl (G.2 2, 7, .inr (.inr (.inr (.inl t_columnFactors)))))]) ⟨hx, hb, hml, hown, hts⟩ hK hP hD hS hA [0, 1] [2, 3, 4] [3, 4, 0, 1, 2] (c_X10_isLine l G q_t q_t_z q_t_old q_t_past q_t_kept q_t_text q_t_order q_t_told q_t_rowsTaken q_t_columnsTaken q_t_ways q_t_scaled q_t_rowFactors q_t_columnFactors q_t_rest q_t_diagonals q_t_weights _ t_states t_isKept t_length t_spot t_toldRows t_z a1 _ hf_2) (cwV 1 hts gX10_scaledBits_X10_isLine rfl rfl rfl (by decide +kernel) ⟨Nat.le_of_ble_eq_true rfl, Nat.le_of_ble_eq_true rfl⟩) rfl rfl rfl rfl rfl rfl (by decide) rfl rfl rfl hl.1 rfl (Nat.le_of_ble_eq_true rfl) dX10_scaledBits_2 ⟨Nat.zero_le _, Nat.zero_le _⟩ (fun H locs hP hD hS => ?_)
  refine lv_if_eq (tgt := 16) hx hb dX10_scaledBits_5 (by decide) (fun c_3 => ?_) (fun c_3 => ?_)
  · replace h := it_t h c_3
    refine lv_ldc2 (v := -9000000000000000001) hx hb hown (hts _ wd_X10_scaledBits_1) dX10_scaledBits_16 ?_
    obtain ⟨rfl, rfl, rfl, rfl⟩ := sm4 h
    exact KR H locs ls 19 dX10_scaledBits_19 hP hD hS
  · replace h := it_f h c_3
    refine lv_aload_n hx hb dX10_scaledBits_8 rfl (lv_at hl 0 rfl) ?_
    refine lv_iload_n hx hb dX10_scaledBits_9 rfl (lv_at hl 2 rfl) ?_
    obtain ⟨r_4, hf_5, h⟩ := bd_ok h
    refine ck_Vi (rest := []) (wn := [(q_t, .inr (9, [.ref q_t_z, .ref q_t_old, .ref q_t_past, .int t_states, .ref q_t_kept, .int t_isKept, .ref q_t_text, .int t_length, .ref q_t_order, .ref q_t_told, .int t_spot, .int t_toldRows, .ref q_t_rowsTaken, .ref q_t_columnsTaken, .ref q_t_ways, .ref q_t_scaled, .ref q_t_rowFactors, .ref q_t_columnFactors, .ref q_t_rest, .ref q_t_diagonals, .ref q_t_weights])), (q_t_z, .inl (G.2 0, 50, .inl t_z)), (q_t_scaled, .inl (G.2 2, 49, .inr (.inr (.inr (.inl t_scaled))))), (q_t_rowFactors, .inl (G.2 2, 7, .inr (.inr (.inr (.inl t_rowFactors))))), (q_t_columnFactors, .inl (G.2 2, 7, .inr (.inr (.inr (.inl t_columnFactors)))))]) ⟨hx, hb, hml, hown, hts⟩ hK hP hD hS hA [0, 1] [2, 3, 4] [3, 4, 0, 1, 2] (c_X10_isLine l G q_t q_t_z q_t_old q_t_past q_t_kept q_t_text q_t_order q_t_told q_t_rowsTaken q_t_columnsTaken q_t_ways q_t_scaled q_t_rowFactors q_t_columnFactors q_t_rest q_t_diagonals q_t_weights _ t_states t_isKept t_length t_spot t_toldRows t_z a2 _ hf_5) (cwV 1 hts gX10_scaledBits_X10_isLine rfl rfl rfl (by decide +kernel) ⟨Nat.le_of_ble_eq_true rfl, Nat.le_of_ble_eq_true rfl⟩) rfl rfl rfl rfl rfl rfl (by decide) rfl rfl rfl hl.1 rfl (Nat.le_of_ble_eq_true rfl) dX10_scaledBits_10 ⟨Nat.zero_le _, Nat.zero_le _⟩ (fun H locs hP hD hS => ?_)
    refine lv_if_ne (tgt := 20) hx hb dX10_scaledBits_13 (by decide) (fun c_6 => ?_) (fun c_6 => ?_)
    · replace h := it_f h c_6
      refine lv_iload_n hx hb dX10_scaledBits_20 rfl (lv_at hl 3 rfl) ?_
      obtain ⟨r_7, hf_8, h⟩ := bd_ok h
      refine ck_Si (rest := []) (wn := [(q_t, .inr (9, [.ref q_t_z, .ref q_t_old, .ref q_t_past, .int t_states, .ref q_t_kept, .int t_isKept, .ref q_t_text, .int t_length, .ref q_t_order, .ref q_t_told, .int t_spot, .int t_toldRows, .ref q_t_rowsTaken, .ref q_t_columnsTaken, .ref q_t_ways, .ref q_t_scaled, .ref q_t_rowFactors, .ref q_t_columnFactors, .ref q_t_rest, .ref q_t_diagonals, .ref q_t_weights])), (q_t_z, .inl (G.2 0, 50, .inl t_z)), (q_t_scaled, .inl (G.2 2, 49, .inr (.inr (.inr (.inl t_scaled))))), (q_t_rowFactors, .inl (G.2 2, 7, .inr (.inr (.inr (.inl t_rowFactors))))), (q_t_columnFactors, .inl (G.2 2, 7, .inr (.inr (.inr (.inl t_columnFactors)))))]) ⟨hx, hb, hml, hown, hts⟩ hK hP hD hS hA [] [0, 1, 2, 3, 4] [0, 1, 2, 3, 4] (c_X10_isSweeps l G _ a3 _ hf_8) (cwS 1 hts gX10_scaledBits_X10_isSweeps rfl rfl rfl (by decide +kernel) ⟨Nat.le_of_ble_eq_true rfl, Nat.le_of_ble_eq_true rfl⟩) rfl rfl rfl rfl (by decide) rfl rfl rfl hl.1 rfl (Nat.le_of_ble_eq_true rfl) dX10_scaledBits_21 ⟨Nat.zero_le _, Nat.zero_le _⟩ (fun H locs hP hD hS => ?_)
      refine lv_if_eq (tgt := 34) hx hb dX10_scaledBits_24 (by decide) (fun c_9 => ?_) (fun c_9 => ?_)
      · replace h := it_t h c_9
        refine lv_iload_n hx hb dX10_scaledBits_34 rfl (lv_at hl 3 rfl) ?_
        obtain ⟨r_10, hf_11, h⟩ := bd_ok h
        refine ck_Si (rest := []) (wn := [(q_t, .inr (9, [.ref q_t_z, .ref q_t_old, .ref q_t_past, .int t_states, .ref q_t_kept, .int t_isKept, .ref q_t_text, .int t_length, .ref q_t_order, .ref q_t_told, .int t_spot, .int t_toldRows, .ref q_t_rowsTaken, .ref q_t_columnsTaken, .ref q_t_ways, .ref q_t_scaled, .ref q_t_rowFactors, .ref q_t_columnFactors, .ref q_t_rest, .ref q_t_diagonals, .ref q_t_weights])), (q_t_z, .inl (G.2 0, 50, .inl t_z)), (q_t_scaled, .inl (G.2 2, 49, .inr (.inr (.inr (.inl t_scaled))))), (q_t_rowFactors, .inl (G.2 2, 7, .inr (.inr (.inr (.inl t_rowFactors))))), (q_t_columnFactors, .inl (G.2 2, 7, .inr (.inr (.inr (.inl t_columnFactors)))))]) ⟨hx, hb, hml, hown, hts⟩ hK hP hD hS hA [] [0, 1, 2, 3, 4] [0, 1, 2, 3, 4] (c_X10_isSweeps l G _ a3 _ hf_11) (cwS 1 hts gX10_scaledBits_X10_isSweeps rfl rfl rfl (by decide +kernel) ⟨Nat.le_of_ble_eq_true rfl, Nat.le_of_ble_eq_true rfl⟩) rfl rfl rfl rfl (by decide) rfl rfl rfl hl.1 rfl (Nat.le_of_ble_eq_true rfl) dX10_scaledBits_35 ⟨Nat.zero_le _, Nat.zero_le _⟩ (fun H locs hP hD hS => ?_)
        refine lv_if_eq (tgt := 47) hx hb dX10_scaledBits_38 (by decide) (fun c_12 => ?_) (fun c_12 => ?_)
        · replace h := it_t h c_12
          refine lv_ldc2 (v := -9000000000000000002) hx hb hown (hts _ wd_X10_scaledBits_3) dX10_scaledBits_47 ?_
          obtain ⟨rfl, rfl, rfl, rfl⟩ := sm4 h
          exact KR H locs ls 50 dX10_scaledBits_50 hP hD hS
        · replace h := it_f h c_12
          refine lv_ldc2 (v := -9000000000000000004) hx hb hown (hts _ wd_X10_scaledBits_2) dX10_scaledBits_41 ?_
          refine lv_goto (tgt := 50) hx hb dX10_scaledBits_44 (by decide) ?_
          obtain ⟨rfl, rfl, rfl, rfl⟩ := sm4 h
          exact KR H locs ls 50 dX10_scaledBits_50 hP hD hS
      · replace h := it_f h c_9
        refine lv_aload_n hx hb dX10_scaledBits_27 rfl (lv_at hl 0 rfl) ?_
        obtain ⟨r_13, hf_14, h⟩ := bd_ok h
        refine ck_Vi (rest := []) (wn := [(q_t, .inr (9, [.ref q_t_z, .ref q_t_old, .ref q_t_past, .int t_states, .ref q_t_kept, .int t_isKept, .ref q_t_text, .int t_length, .ref q_t_order, .ref q_t_told, .int t_spot, .int t_toldRows, .ref q_t_rowsTaken, .ref q_t_columnsTaken, .ref q_t_ways, .ref q_t_scaled, .ref q_t_rowFactors, .ref q_t_columnFactors, .ref q_t_rest, .ref q_t_diagonals, .ref q_t_weights])), (q_t_z, .inl (G.2 0, 50, .inl t_z)), (q_t_scaled, .inl (G.2 2, 49, .inr (.inr (.inr (.inl t_scaled))))), (q_t_rowFactors, .inl (G.2 2, 7, .inr (.inr (.inr (.inl t_rowFactors))))), (q_t_columnFactors, .inl (G.2 2, 7, .inr (.inr (.inr (.inl t_columnFactors)))))]) ⟨hx, hb, hml, hown, hts⟩ hK hP hD hS hA [0, 1] [2, 3, 4] [3, 4, 0, 1, 2] (c_X10_canScale l G q_t q_t_z q_t_old q_t_past q_t_kept q_t_text q_t_order q_t_told q_t_rowsTaken q_t_columnsTaken q_t_ways q_t_scaled q_t_rowFactors q_t_columnFactors q_t_rest q_t_diagonals q_t_weights _ t_states t_isKept t_length t_spot t_toldRows t_z _ hf_14) (cwV 0 hts gX10_scaledBits_X10_canScale rfl rfl rfl (by decide +kernel) ⟨Nat.le_of_ble_eq_true rfl, Nat.le_of_ble_eq_true rfl⟩) rfl rfl rfl rfl rfl rfl (by decide) rfl rfl rfl hl.1 rfl (Nat.le_of_ble_eq_true rfl) dX10_scaledBits_28 ⟨Nat.zero_le _, Nat.zero_le _⟩ (fun H locs hP hD hS => ?_)
        refine lv_if_ne (tgt := 51) hx hb dX10_scaledBits_31 (by decide) (fun c_15 => ?_) (fun c_15 => ?_)
        · replace h := it_f h c_15
          refine lv_aload_n hx hb dX10_scaledBits_51 rfl (lv_at hl 0 rfl) ?_
          refine lv_iload_n hx hb dX10_scaledBits_52 rfl (lv_at hl 3 rfl) ?_
          obtain ⟨⟨t_scaled_16, t_rowFactors_17, t_columnFactors_18⟩, hf_19, h⟩ := bd_ok h
          refine ck_Vv (rest := []) (wn := [(q_t, .inr (9, [.ref q_t_z, .ref q_t_old, .ref q_t_past, .int t_states, .ref q_t_kept, .int t_isKept, .ref q_t_text, .int t_length, .ref q_t_order, .ref q_t_told, .int t_spot, .int t_toldRows, .ref q_t_rowsTaken, .ref q_t_columnsTaken, .ref q_t_ways, .ref q_t_scaled, .ref q_t_rowFactors, .ref q_t_columnFactors, .ref q_t_rest, .ref q_t_diagonals, .ref q_t_weights])), (q_t_z, .inl (G.2 0, 50, .inl t_z)), (q_t_scaled, .inl (G.2 2, 49, .inr (.inr (.inr (.inl t_scaled_16))))), (q_t_rowFactors, .inl (G.2 2, 7, .inr (.inr (.inr (.inl t_rowFactors_17))))), (q_t_columnFactors, .inl (G.2 2, 7, .inr (.inr (.inr (.inl t_columnFactors_18)))))]) ⟨hx, hb, hml, hown, hts⟩ hK hP hD hS hA [0, 1, 2, 3, 4] [] [0, 1, 2, 3, 4] (c_X10_sweep l G q_t q_t_z q_t_old q_t_past q_t_kept q_t_text q_t_order q_t_told q_t_rowsTaken q_t_columnsTaken q_t_ways q_t_scaled q_t_rowFactors q_t_columnFactors q_t_rest q_t_diagonals q_t_weights _ t_states t_isKept t_length t_spot t_toldRows t_z t_scaled t_rowFactors t_columnFactors a3 _ _ _ hf_19) (cwV 1 hts gX10_scaledBits_X10_sweep rfl rfl rfl (by decide +kernel) ⟨Nat.le_of_ble_eq_true rfl, Nat.le_of_ble_eq_true rfl⟩) rfl rfl rfl rfl rfl rfl (by decide) rfl rfl rfl hl.1 rfl (Nat.le_of_ble_eq_true rfl) dX10_scaledBits_53 ⟨Nat.zero_le _, Nat.zero_le _⟩ (fun H locs hP hD hS => ?_)
          refine lv_aload_n hx hb dX10_scaledBits_56 rfl (lv_at hl 0 rfl) ?_
          refine va_get (D := G.1) (ci := 9) (v := .ref q_t_scaled) (C := RX10) (T := TX10) (N := 21) hx hb hts wi_X10_scaledBits_X10 hown hK hP 0 rfl rfl 15 (by decide) (hts _ wd_X10_scaledBits_4) (fun _ h9 => h9) rfl dX10_scaledBits_57 ?_
          refine lv_bipush (v := 7) hx hb dX10_scaledBits_60 (by decide) ?_
          refine lv_iload_n hx hb dX10_scaledBits_62 rfl (lv_at hl 1 rfl) ?_
          refine lv_imul hx hb dX10_scaledBits_63 ?_
          refine lv_iload_n hx hb dX10_scaledBits_64 rfl (lv_at hl 2 rfl) ?_
          refine lv_iadd hx hb dX10_scaledBits_65 ?_
          obtain ⟨g_20, h⟩ := gd_ok h
          refine va_dald (D := G.1) hx hb hK hP 2 2 rfl rfl g_20 dX10_scaledBits_66 ?_
          obtain ⟨r_21, hf_22, h⟩ := bd_ok h
          refine ck_Sl (rest := []) (wn := [(q_t, .inr (9, [.ref q_t_z, .ref q_t_old, .ref q_t_past, .int t_states, .ref q_t_kept, .int t_isKept, .ref q_t_text, .int t_length, .ref q_t_order, .ref q_t_told, .int t_spot, .int t_toldRows, .ref q_t_rowsTaken, .ref q_t_columnsTaken, .ref q_t_ways, .ref q_t_scaled, .ref q_t_rowFactors, .ref q_t_columnFactors, .ref q_t_rest, .ref q_t_diagonals, .ref q_t_weights])), (q_t_z, .inl (G.2 0, 50, .inl t_z)), (q_t_scaled, .inl (G.2 2, 49, .inr (.inr (.inr (.inl t_scaled_16))))), (q_t_rowFactors, .inl (G.2 2, 7, .inr (.inr (.inr (.inl t_rowFactors_17))))), (q_t_columnFactors, .inl (G.2 2, 7, .inr (.inr (.inr (.inl t_columnFactors_18)))))]) ⟨hx, hb, hml, hown, hts⟩ hK hP hD hS hA [] [0, 1, 2, 3, 4] [0, 1, 2, 3, 4] (c_Jxe99ae_doubleToLongBits_ccdee l G _ (t_scaled_16 (((7 : Int32) * a1) + a2).toNatClampNeg) _ hf_22) (va_cwS 1 hts gX10_scaledBits_Jxe99ae_doubleToLongBits_ccdee rfl rfl rfl (by decide +kernel) ⟨Nat.le_of_ble_eq_true rfl, Nat.le_of_ble_eq_true rfl⟩) rfl rfl rfl rfl (by decide) rfl rfl rfl hl.1 rfl (Nat.le_of_ble_eq_true rfl) dX10_scaledBits_67 ⟨Nat.zero_le _, Nat.zero_le _⟩ (fun H locs hP hD hS => ?_)
          obtain ⟨rfl, rfl, rfl, rfl⟩ := sm4 h
          exact KR H locs ls 70 dX10_scaledBits_70 hP hD hS
        · replace h := it_t h c_15
          refine lv_iload_n hx hb dX10_scaledBits_34 rfl (lv_at hl 3 rfl) ?_
          obtain ⟨r_23, hf_24, h⟩ := bd_ok h
          refine ck_Si (rest := []) (wn := [(q_t, .inr (9, [.ref q_t_z, .ref q_t_old, .ref q_t_past, .int t_states, .ref q_t_kept, .int t_isKept, .ref q_t_text, .int t_length, .ref q_t_order, .ref q_t_told, .int t_spot, .int t_toldRows, .ref q_t_rowsTaken, .ref q_t_columnsTaken, .ref q_t_ways, .ref q_t_scaled, .ref q_t_rowFactors, .ref q_t_columnFactors, .ref q_t_rest, .ref q_t_diagonals, .ref q_t_weights])), (q_t_z, .inl (G.2 0, 50, .inl t_z)), (q_t_scaled, .inl (G.2 2, 49, .inr (.inr (.inr (.inl t_scaled))))), (q_t_rowFactors, .inl (G.2 2, 7, .inr (.inr (.inr (.inl t_rowFactors))))), (q_t_columnFactors, .inl (G.2 2, 7, .inr (.inr (.inr (.inl t_columnFactors)))))]) ⟨hx, hb, hml, hown, hts⟩ hK hP hD hS hA [] [0, 1, 2, 3, 4] [0, 1, 2, 3, 4] (c_X10_isSweeps l G _ a3 _ hf_24) (cwS 1 hts gX10_scaledBits_X10_isSweeps rfl rfl rfl (by decide +kernel) ⟨Nat.le_of_ble_eq_true rfl, Nat.le_of_ble_eq_true rfl⟩) rfl rfl rfl rfl (by decide) rfl rfl rfl hl.1 rfl (Nat.le_of_ble_eq_true rfl) dX10_scaledBits_35 ⟨Nat.zero_le _, Nat.zero_le _⟩ (fun H locs hP hD hS => ?_)
          refine lv_if_eq (tgt := 47) hx hb dX10_scaledBits_38 (by decide) (fun c_25 => ?_) (fun c_25 => ?_)
          · replace h := it_t h c_25
            refine lv_ldc2 (v := -9000000000000000002) hx hb hown (hts _ wd_X10_scaledBits_3) dX10_scaledBits_47 ?_
            obtain ⟨rfl, rfl, rfl, rfl⟩ := sm4 h
            exact KR H locs ls 50 dX10_scaledBits_50 hP hD hS
          · replace h := it_f h c_25
            refine lv_ldc2 (v := -9000000000000000004) hx hb hown (hts _ wd_X10_scaledBits_2) dX10_scaledBits_41 ?_
            refine lv_goto (tgt := 50) hx hb dX10_scaledBits_44 (by decide) ?_
            obtain ⟨rfl, rfl, rfl, rfl⟩ := sm4 h
            exact KR H locs ls 50 dX10_scaledBits_50 hP hD hS
    · replace h := it_t h c_6
      refine lv_ldc2 (v := -9000000000000000001) hx hb hown (hts _ wd_X10_scaledBits_1) dX10_scaledBits_16 ?_
      obtain ⟨rfl, rfl, rfl, rfl⟩ := sm4 h
      exact KR H locs ls 19 dX10_scaledBits_19 hP hD hS
set_option maxHeartbeats 4000000 in
set_option maxRecDepth 100000 in
theorem c_X10_scaledBits (l : Launch) (G : GT) (q_t q_t_z q_t_old q_t_past q_t_kept q_t_text q_t_order q_t_told q_t_rowsTaken q_t_columnsTaken q_t_ways q_t_scaled q_t_rowFactors q_t_columnFactors q_t_rest q_t_diagonals q_t_weights : Nat) (sz : Nat) (t_states : Int32) (t_isKept : Int32) (t_length : Int32) (t_spot : Int32) (t_toldRows : Int32) (t_z : Nat → Int32) (t_scaled : Nat → UInt64) (t_rowFactors : Nat → UInt64) (t_columnFactors : Nat → UInt64) (a1 : Int32) (a2 : Int32) (a3 : Int32) (r : Int64) (o_t_scaled : Nat → UInt64) (o_t_rowFactors : Nat → UInt64) (o_t_columnFactors : Nat → UInt64) (h : f_X10_scaledBits t_z t_scaled t_rowFactors t_columnFactors a1 a2 a3 = some (r, o_t_scaled, o_t_rowFactors, o_t_columnFactors)) : Met l yX10_scaledBits wsX10_scaledBits ({ frames := 3, cells := 0, slots := 0, locals := 81 } : Room) (va_Pc [.ref q_t, .int a1, .int a2, .int a3] (pcW G [(q_t, .inr (9, [.ref q_t_z, .ref q_t_old, .ref q_t_past, .int t_states, .ref q_t_kept, .int t_isKept, .ref q_t_text, .int t_length, .ref q_t_order, .ref q_t_told, .int t_spot, .int t_toldRows, .ref q_t_rowsTaken, .ref q_t_columnsTaken, .ref q_t_ways, .ref q_t_scaled, .ref q_t_rowFactors, .ref q_t_columnFactors, .ref q_t_rest, .ref q_t_diagonals, .ref q_t_weights])), (q_t_z, .inl (G.2 0, 50, .inl t_z)), (q_t_scaled, .inl (G.2 2, 49, .inr (.inr (.inr (.inl t_scaled))))), (q_t_rowFactors, .inl (G.2 2, 7, .inr (.inr (.inr (.inl t_rowFactors))))), (q_t_columnFactors, .inl (G.2 2, 7, .inr (.inr (.inr (.inl t_columnFactors)))))] sz)) (va_Ql (fun r9 (_ : Unit) => r9 = r) (fun _ t => atW G (va_A [(q_t, .inr (9, [.ref q_t_z, .ref q_t_old, .ref q_t_past, .int t_states, .ref q_t_kept, .int t_isKept, .ref q_t_text, .int t_length, .ref q_t_order, .ref q_t_told, .int t_spot, .int t_toldRows, .ref q_t_rowsTaken, .ref q_t_columnsTaken, .ref q_t_ways, .ref q_t_scaled, .ref q_t_rowFactors, .ref q_t_columnFactors, .ref q_t_rest, .ref q_t_diagonals, .ref q_t_weights])), (q_t_z, .inl (G.2 0, 50, .inl t_z)), (q_t_scaled, .inl (G.2 2, 49, .inr (.inr (.inr (.inl t_scaled))))), (q_t_rowFactors, .inl (G.2 2, 7, .inr (.inr (.inr (.inl t_rowFactors))))), (q_t_columnFactors, .inl (G.2 2, 7, .inr (.inr (.inr (.inl t_columnFactors)))))] sz) [(q_t, .inr (9, [.ref q_t_z, .ref q_t_old, .ref q_t_past, .int t_states, .ref q_t_kept, .int t_isKept, .ref q_t_text, .int t_length, .ref q_t_order, .ref q_t_told, .int t_spot, .int t_toldRows, .ref q_t_rowsTaken, .ref q_t_columnsTaken, .ref q_t_ways, .ref q_t_scaled, .ref q_t_rowFactors, .ref q_t_columnFactors, .ref q_t_rest, .ref q_t_diagonals, .ref q_t_weights])), (q_t_z, .inl (G.2 0, 50, .inl t_z)), (q_t_scaled, .inl (G.2 2, 49, .inr (.inr (.inr (.inl o_t_scaled))))), (q_t_rowFactors, .inl (G.2 2, 7, .inr (.inr (.inr (.inl o_t_rowFactors))))), (q_t_columnFactors, .inl (G.2 2, 7, .inr (.inr (.inr (.inl o_t_columnFactors)))))] t) (va_A [(q_t, .inr (9, [.ref q_t_z, .ref q_t_old, .ref q_t_past, .int t_states, .ref q_t_kept, .int t_isKept, .ref q_t_text, .int t_length, .ref q_t_order, .ref q_t_told, .int t_spot, .int t_toldRows, .ref q_t_rowsTaken, .ref q_t_columnsTaken, .ref q_t_ways, .ref q_t_scaled, .ref q_t_rowFactors, .ref q_t_columnFactors, .ref q_t_rest, .ref q_t_diagonals, .ref q_t_weights])), (q_t_z, .inl (G.2 0, 50, .inl t_z)), (q_t_scaled, .inl (G.2 2, 49, .inr (.inr (.inr (.inl t_scaled))))), (q_t_rowFactors, .inl (G.2 2, 7, .inr (.inr (.inr (.inl t_rowFactors))))), (q_t_columnFactors, .inl (G.2 2, 7, .inr (.inr (.inr (.inl t_columnFactors)))))] sz)) 0 0 (va_A [(q_t, .inr (9, [.ref q_t_z, .ref q_t_old, .ref q_t_past, .int t_states, .ref q_t_kept, .int t_isKept, .ref q_t_text, .int t_length, .ref q_t_order, .ref q_t_told, .int t_spot, .int t_toldRows, .ref q_t_rowsTaken, .ref q_t_columnsTaken, .ref q_t_ways, .ref q_t_scaled, .ref q_t_rowFactors, .ref q_t_columnFactors, .ref q_t_rest, .ref q_t_diagonals, .ref q_t_weights])), (q_t_z, .inl (G.2 0, 50, .inl t_z)), (q_t_scaled, .inl (G.2 2, 49, .inr (.inr (.inr (.inl t_scaled))))), (q_t_rowFactors, .inl (G.2 2, 7, .inr (.inr (.inr (.inl t_rowFactors))))), (q_t_columnFactors, .inl (G.2 2, 7, .inr (.inr (.inr (.inl t_columnFactors)))))] sz) := by
  refine Met.ofW (cc := cX10_scaledBits) (maxL := 4) (ret := (some .long)) (by decide) rfl ?_
  intro p e s m args below meth c s₁ B hml hv
  obtain ⟨rfl, hsz, hP, hK, hD0⟩ := hv
  subst hsz
  have hD := hD0.self (sz := s.heap.size)
  generalize hAe : va_A [(q_t, .inr (9, [.ref q_t_z, .ref q_t_old, .ref q_t_past, .int t_states, .ref q_t_kept, .int t_isKept, .ref q_t_text, .int t_length, .ref q_t_order, .ref q_t_told, .int t_spot, .int t_toldRows, .ref q_t_rowsTaken, .ref q_t_columnsTaken, .ref q_t_ways, .ref q_t_scaled, .ref q_t_rowFactors, .ref q_t_columnFactors, .ref q_t_rest, .ref q_t_diagonals, .ref q_t_weights])), (q_t_z, .inl (G.2 0, 50, .inl t_z)), (q_t_scaled, .inl (G.2 2, 49, .inr (.inr (.inr (.inl t_scaled))))), (q_t_rowFactors, .inl (G.2 2, 7, .inr (.inr (.inr (.inl t_rowFactors))))), (q_t_columnFactors, .inl (G.2 2, 7, .inr (.inr (.inr (.inl t_columnFactors)))))] s.heap.size = A at hD ⊢
  have hA : ∀ q : Nat, s.heap.size ≤ q → A q := fun q h => by rw [← hAe]; exact Or.inr h
  have hl := lv_entry ([.ref q_t, .int a1, .int a2, .int a3]) (n := 4) (Nat.le_of_ble_eq_true rfl)
  rw [lg_entry_eq]
  refine k_X10_scaledBits ⟨B.exec, B.bytes, hml, findClass_of_methodNamed B.named, atoms_spec (ws := wsX10_scaledBits) B.pre⟩ G hK hA q_t q_t_z q_t_old q_t_past q_t_kept q_t_text q_t_order q_t_told q_t_rowsTaken q_t_columnsTaken q_t_ways q_t_scaled q_t_rowFactors q_t_columnFactors q_t_rest q_t_diagonals q_t_weights _ _ _ _ _ _ _ _ _ _ _ _ _ _ _ _ h ?_ _ _ _ hP hD va_S.rf hl
  intro H locs ls pc hd hP hD hS
  exact W.lret B.exec B.bytes B.returns (fun t ht hW => ⟨⟨r, (), rfl, rfl, by rw [ht]; exact hP, hD⟩, hS.F ht⟩) hS.2.2 hd B.notSynchronized
