set_option maxRecDepth 20000 in
theorem wd_X5_begin_1 : Cond.methodLink RX5 30 Lib.Math.min.name ∈ wsX5_begin := List.mem_of_getElem? (i := 1) (by decide +kernel)
set_option maxRecDepth 20000 in
theorem wd_X5_begin_2 : Cond.static Lib.Math.min.name ∈ wsX5_begin := List.mem_of_getElem? (i := 2) (by decide +kernel)
set_option maxRecDepth 20000 in
theorem wd_X5_begin_3 : Cond.initialized "java/lang/Math" ∈ wsX5_begin := List.mem_of_getElem? (i := 3) (by decide +kernel)
set_option maxRecDepth 20000 in
theorem wd_X5_begin_4 : Cond.code Lib.Math.min.name Lib.Math.min.code 2 (some .int) ∈ wsX5_begin := List.mem_of_getElem? (i := 4) (by decide +kernel)
set_option maxRecDepth 20000 in
theorem wd_X5_begin_5 : Cond.fieldLink RX5 21 "PermanentDesk$Scaling" "size" "I" ∈ wsX5_begin := List.mem_of_getElem? (i := 5) (by decide +kernel)
set_option maxRecDepth 20000 in
theorem wi_X5_begin_X5 : ∀ w ∈ u_ws RX5 TX5 4, w ∈ wsX5_begin := by decide +kernel
set_option maxRecDepth 20000 in
theorem wd_X5_begin_6 : Cond.fieldLink RX5 15 "PermanentDesk$Scaling" "rowFactors" "[D" ∈ wsX5_begin := List.mem_of_getElem? (i := 6) (by decide +kernel)
set_option maxRecDepth 20000 in
theorem wd_X5_begin_7 : Cond.fieldLink RX5 18 "PermanentDesk$Scaling" "columnFactors" "[D" ∈ wsX5_begin := List.mem_of_getElem? (i := 7) (by decide +kernel)
set_option maxRecDepth 20000 in
theorem wd_X5_begin_8 : Cond.fieldLink RX5 9 "PermanentDesk$Scaling" "cells" "[D" ∈ wsX5_begin := List.mem_of_getElem? (i := 8) (by decide +kernel)
def f_X5_begin_L2 (x2 : Int32) (t_size : Int32) (a1_size : Int32) (a1_cells : Nat → Int32) : (Int32 × (Nat → UInt64)) → Option ((Int32 × (Nat → UInt64)) ⊕ (Nat → UInt64))
  | (x3, t_cells) =>
    if t_size ≤ x3 then
      some (.inr t_cells)
    else
      (f_X4_at a1_size a1_cells x2 x3).bind (fun r_10 =>
      gd (okI ((x2 * (7 : Int32)) + x3) 49) (
      pl ((vf_upd t_cells ((x2 * (7 : Int32)) + x3).toNatClampNeg (FP.i2d r_10)) : Nat → UInt64) (fun t_cells_13 =>
      pl ((x3 + (1 : Int32)) : Int32) (fun x3_14 =>
      some (.inl (x3_14, t_cells_13))))))
def f_X5_begin_L1 (t_size : Int32) (a1_size : Int32) (a1_cells : Nat → Int32) : (Int32 × (Nat → UInt64) × (Nat → UInt64) × (Nat → UInt64)) → Option ((Int32 × (Nat → UInt64) × (Nat → UInt64) × (Nat → UInt64)) ⊕ ((Nat → UInt64) × (Nat → UInt64) × (Nat → UInt64)))
  | (x2, t_cells, t_rowFactors, t_columnFactors) =>
    if t_size ≤ x2 then
      some (.inr (t_cells, t_rowFactors, t_columnFactors))
    else
      gd (okI x2 7) (
      pl ((vf_upd t_rowFactors x2.toNatClampNeg FP.dconst1) : Nat → UInt64) (fun t_rowFactors_6 =>
      gd (okI x2 7) (
      pl ((vf_upd t_columnFactors x2.toNatClampNeg FP.dconst1) : Nat → UInt64) (fun t_columnFactors_8 =>
      (lpN (f_X5_begin_L2 x2 t_size a1_size a1_cells) FU ((0 : Int32), t_cells)).bind (fun t_cells_15 =>
      pl ((x2 + (1 : Int32)) : Int32) (fun x2_18 =>
      some (.inl (x2_18, t_cells_15, t_rowFactors_6, t_columnFactors_8))))))))
def f_X5_begin (t_size : Int32) (t_cells : Nat → UInt64) (t_rowFactors : Nat → UInt64) (t_columnFactors : Nat → UInt64) (a1_size : Int32) (a1_cells : Nat → Int32) : Option (Int32 × (Nat → UInt64) × (Nat → UInt64) × (Nat → UInt64)) :=
  (f_X4_size a1_size).bind (fun r_1 =>
  pl ((if (7 : Int32) < r_1 then (7 : Int32) else r_1) : Int32) (fun t_size_3 =>
  (lpN (f_X5_begin_L1 t_size_3 a1_size a1_cells) FU ((0 : Int32), t_cells, t_rowFactors, t_columnFactors)).bind (fun (t_cells_19, t_rowFactors_20, t_columnFactors_21) =>
  some (t_size_3, t_cells_19, t_rowFactors_20, t_columnFactors_21))))
set_option maxHeartbeats 4000000 in
set_option maxRecDepth 100000 in
theorem l_X5_begin_2 {p : Program} {l : Launch} {e : Env} {s : State} {m : MethodId} {args : Array Value} {below : List Frame} {meth : Method} {c : Code} {Q : State → Prop} {A0 : Nat → Prop} {H0 : Heap} (C : CallFix p m c cX5_begin 4 s args wsX5_begin RX5) (G : GT) (hK : gK G s) (hA : ∀ q : Nat, H0.size ≤ q → A0 q) (q_t q_t_cells q_t_rowFactors q_t_columnFactors q_a1 q_a1_cells : Nat) (x2 : Int32) (t_size : Int32) (t_rowFactors : Nat → UInt64) (t_columnFactors : Nat → UInt64) (a1_size : Int32) (a1_cells : Nat → Int32) (E_t_cells : Nat → UInt64) (K : ∀ (H : Heap) (locs : List Loc) (ls : Array Slot), va_P G.1 vwCl [(q_t, .inr (4, [.ref q_t_cells, .ref q_t_rowFactors, .ref q_t_columnFactors, .int t_size])), (q_t_cells, .inl (G.2 2, 49, .inr (.inr (.inr (.inl E_t_cells))))), (q_t_rowFactors, .inl (G.2 2, 7, .inr (.inr (.inr (.inl t_rowFactors))))), (q_t_columnFactors, .inl (G.2 2, 7, .inr (.inr (.inr (.inl t_columnFactors))))), (q_a1, .inr (3, [.ref q_a1_cells, .int a1_size])), (q_a1_cells, .inl (G.2 0, 49, .inl a1_cells))] H → va_D A0 [(q_t, .inr (4, [.ref q_t_cells, .ref q_t_rowFactors, .ref q_t_columnFactors, .int t_size])), (q_t_cells, .inl (G.2 2, 49, .inr (.inr (.inr (.inl E_t_cells))))), (q_t_rowFactors, .inl (G.2 2, 7, .inr (.inr (.inr (.inl t_rowFactors))))), (q_t_columnFactors, .inl (G.2 2, 7, .inr (.inr (.inr (.inl t_columnFactors))))), (q_a1, .inr (3, [.ref q_a1_cells, .int a1_size])), (q_a1_cells, .inl (G.2 0, 49, .inl a1_cells))] → va_S A0 H0 H locs → lv_has ls 4 [(0, .ref q_t), (1, .ref q_a1), (2, .int x2)] → W p l e ({ frames := 2, cells := 0, slots := 0, locals := 60 } : Room) s m args below meth c H locs 0 0 Q (F0 m 71 ls [])) : ∀ (n : Nat) (x3 : Int32) (t_cells : Nat → UInt64), lpN (f_X5_begin_L2 x2 t_size a1_size a1_cells) n (x3, t_cells) = some E_t_cells → ∀ (H : Heap) (locs : List Loc) (ls : Array Slot), va_P G.1 vwCl [(q_t, .inr (4, [.ref q_t_cells, .ref q_t_rowFactors, .ref q_t_columnFactors, .int t_size])), (q_t_cells, .inl (G.2 2, 49, .inr (.inr (.inr (.inl t_cells))))), (q_t_rowFactors, .inl (G.2 2, 7, .inr (.inr (.inr (.inl t_rowFactors))))), (q_t_columnFactors, .inl (G.2 2, 7, .inr (.inr (.inr (.inl t_columnFactors))))), (q_a1, .inr (3, [.ref q_a1_cells, .int a1_size])), (q_a1_cells, .inl (G.2 0, 49, .inl a1_cells))] H → va_D A0 [(q_t, .inr (4, [.ref q_t_cells, .ref q_t_rowFactors, .ref q_t_columnFactors, .int t_size])), (q_t_cells, .inl (G.2 2, 49, .inr (.inr (.inr (.inl t_cells))))), (q_t_rowFactors, .inl (G.2 2, 7, .inr (.inr (.inr (.inl t_rowFactors))))), (q_t_columnFactors, .inl (G.2 2, 7, .inr (.inr (.inr (.inl t_columnFactors))))), (q_a1, .inr (3, [.ref q_a1_cells, .int a1_size])), (q_a1_cells, .inl (G.2 0, 49, .inl a1_cells))] → va_S A0 H0 H locs → lv_has ls 4 [(0, .ref q_t), (1, .ref q_a1), (2, .int x2), (3, .int x3)] → W p l e ({ frames := 2, cells := 0, slots := 0, locals := 60 } : Room) s m args below meth c H locs 0 0 Q (F0 m 39 ls []) := by
  obtain ⟨hx, hb, hml, hown, hts⟩ := C
  intro n
  induction n with
  | zero => intro x3 t_cells h; exact absurd h (fun h => lp_0 h)
  | succ n ih =>
    intro x3 t_cells h H locs ls hP hD hS hl
    obtain ⟨y, h, hk⟩ := lp_s h
    rw [f_X5_begin_L2] at h
    refine lv_iload_n hx hb dX5_begin_39 rfl (lv_at hl 3 rfl) ?_
    refine lv_aload_n hx hb dX5_begin_40 rfl (lv_at hl 0 rfl) ?_
    refine va_get (D := G.1) (ci := 4) (v := .int t_size) (C := RX5) (T := TX5) (N := 4) hx hb hts wi_X5_begin_X5 hown hK hP 0 rfl rfl 3 (by decide) (hts _ wd_X5_begin_5) (fun _ h9 => h9) rfl dX5_begin_41 ?_
    refine lv_icmp_ge (tgt := 71) hx hb dX5_begin_44 (by decide) (fun c_9 => ?_) (fun c_9 => ?_)
    · replace h := it_t h c_9
      obtain rfl := sm1 h
      obtain rfl := sm1 hk
      exact K H locs ls hP hD hS (lv_sub hl [0, 1, 2] rfl)
    · replace h := it_f h c_9
      refine lv_aload_n hx hb dX5_begin_47 rfl (lv_at hl 0 rfl) ?_
      refine va_get (D := G.1) (ci := 4) (v := .ref q_t_cells) (C := RX5) (T := TX5) (N := 4) hx hb hts wi_X5_begin_X5 hown hK hP 0 rfl rfl 0 (by decide) (hts _ wd_X5_begin_8) (fun _ h9 => h9) rfl dX5_begin_48 ?_
      refine lv_iload_n hx hb dX5_begin_51 rfl (lv_at hl 2 rfl) ?_
      refine lv_bipush (v := 7) hx hb dX5_begin_52 (by decide) ?_
      refine lv_imul hx hb dX5_begin_54 ?_
      refine lv_iload_n hx hb dX5_begin_55 rfl (lv_at hl 3 rfl) ?_
      refine lv_iadd hx hb dX5_begin_56 ?_
      refine lv_aload_n hx hb dX5_begin_57 rfl (lv_at hl 1 rfl) ?_
      refine lv_iload_n hx hb dX5_begin_58 rfl (lv_at hl 2 rfl) ?_
      refine lv_iload_n hx hb dX5_begin_59 rfl (lv_at hl 3 rfl) ?_
      obtain ⟨r_10, hf_11, h⟩ := bd_ok h
      refine ck_Vi (rest := [.int ((x2 * (7 : Int32)) + x3), .ref q_t_cells]) (wn := [(q_t, .inr (4, [.ref q_t_cells, .ref q_t_rowFactors, .ref q_t_columnFactors, .int t_size])), (q_t_cells, .inl (G.2 2, 49, .inr (.inr (.inr (.inl t_cells))))), (q_t_rowFactors, .inl (G.2 2, 7, .inr (.inr (.inr (.inl t_rowFactors))))), (q_t_columnFactors, .inl (G.2 2, 7, .inr (.inr (.inr (.inl t_columnFactors))))), (q_a1, .inr (3, [.ref q_a1_cells, .int a1_size])), (q_a1_cells, .inl (G.2 0, 49, .inl a1_cells))]) ⟨hx, hb, hml, hown, hts⟩ hK hP hD hS hA [4, 5] [0, 1, 2, 3] [0, 1, 2, 3, 4, 5] (c_X4_at l G q_a1 q_a1_cells _ a1_size a1_cells x2 x3 _ hf_11) (cwV 2 hts gX5_begin_X4_at rfl rfl rfl (by decide +kernel) ⟨Nat.le_of_ble_eq_true rfl, Nat.le_of_ble_eq_true rfl⟩) rfl rfl rfl rfl rfl rfl (by decide) rfl rfl rfl hl.1 rfl (Nat.le_of_ble_eq_true rfl) dX5_begin_60 ⟨Nat.zero_le _, Nat.zero_le _⟩ (fun H locs hP hD hS => ?_)
      refine lv_i2d hx hb dX5_begin_63 ?_
      obtain ⟨g_12, h⟩ := gd_ok h
      obtain ⟨t_cells_13, et_cells_13, h⟩ := pl_ok h
      refine st_d (D := G.1) (wn := [(q_t, .inr (4, [.ref q_t_cells, .ref q_t_rowFactors, .ref q_t_columnFactors, .int t_size])), (q_t_cells, .inl (G.2 2, 49, .inr (.inr (.inr (.inl t_cells_13))))), (q_t_rowFactors, .inl (G.2 2, 7, .inr (.inr (.inr (.inl t_rowFactors))))), (q_t_columnFactors, .inl (G.2 2, 7, .inr (.inr (.inr (.inl t_columnFactors))))), (q_a1, .inr (3, [.ref q_a1_cells, .int a1_size])), (q_a1_cells, .inl (G.2 0, 49, .inl a1_cells))]) hx hb hK hP hD hS 1 2 rfl rfl g_12 dX5_begin_64 et_cells_13 rfl (fun H locs hP hD hS => ?_)
      obtain ⟨x3_14, ex3_14, h⟩ := pl_ok h
      refine lv_iinc (v := x3_14) (lv' := [(3, .int x3_14), (0, .ref q_t), (1, .ref q_a1), (2, .int x2)]) hx hb dX5_begin_65 hl (k := 3) rfl (by rw [ex3_14]; rfl) (by decide) rfl (fun ls hl => ?_)
      refine lv_goto (tgt := 39) hx hb dX5_begin_68 (by decide) ?_
      obtain rfl := sm1 h
      exact ih x3_14 t_cells_13 hk H locs ls hP hD hS (lv_sub hl [1, 2, 3, 0] rfl)
set_option maxHeartbeats 4000000 in
set_option maxRecDepth 100000 in
theorem l_X5_begin_1 {p : Program} {l : Launch} {e : Env} {s : State} {m : MethodId} {args : Array Value} {below : List Frame} {meth : Method} {c : Code} {Q : State → Prop} {A0 : Nat → Prop} {H0 : Heap} (C : CallFix p m c cX5_begin 4 s args wsX5_begin RX5) (G : GT) (hK : gK G s) (hA : ∀ q : Nat, H0.size ≤ q → A0 q) (q_t q_t_cells q_t_rowFactors q_t_columnFactors q_a1 q_a1_cells : Nat) (t_size : Int32) (a1_size : Int32) (a1_cells : Nat → Int32) (E_t_cells : Nat → UInt64) (E_t_rowFactors : Nat → UInt64) (E_t_columnFactors : Nat → UInt64) (K : ∀ (H : Heap) (locs : List Loc) (ls : Array Slot), va_P G.1 vwCl [(q_t, .inr (4, [.ref q_t_cells, .ref q_t_rowFactors, .ref q_t_columnFactors, .int t_size])), (q_t_cells, .inl (G.2 2, 49, .inr (.inr (.inr (.inl E_t_cells))))), (q_t_rowFactors, .inl (G.2 2, 7, .inr (.inr (.inr (.inl E_t_rowFactors))))), (q_t_columnFactors, .inl (G.2 2, 7, .inr (.inr (.inr (.inl E_t_columnFactors))))), (q_a1, .inr (3, [.ref q_a1_cells, .int a1_size])), (q_a1_cells, .inl (G.2 0, 49, .inl a1_cells))] H → va_D A0 [(q_t, .inr (4, [.ref q_t_cells, .ref q_t_rowFactors, .ref q_t_columnFactors, .int t_size])), (q_t_cells, .inl (G.2 2, 49, .inr (.inr (.inr (.inl E_t_cells))))), (q_t_rowFactors, .inl (G.2 2, 7, .inr (.inr (.inr (.inl E_t_rowFactors))))), (q_t_columnFactors, .inl (G.2 2, 7, .inr (.inr (.inr (.inl E_t_columnFactors))))), (q_a1, .inr (3, [.ref q_a1_cells, .int a1_size])), (q_a1_cells, .inl (G.2 0, 49, .inl a1_cells))] → va_S A0 H0 H locs → lv_has ls 4 [] → W p l e ({ frames := 2, cells := 0, slots := 0, locals := 60 } : Room) s m args below meth c H locs 0 0 Q (F0 m 77 ls [])) : ∀ (n : Nat) (x2 : Int32) (t_cells : Nat → UInt64) (t_rowFactors : Nat → UInt64) (t_columnFactors : Nat → UInt64), lpN (f_X5_begin_L1 t_size a1_size a1_cells) n (x2, t_cells, t_rowFactors, t_columnFactors) = some (E_t_cells, E_t_rowFactors, E_t_columnFactors) → ∀ (H : Heap) (locs : List Loc) (ls : Array Slot), va_P G.1 vwCl [(q_t, .inr (4, [.ref q_t_cells, .ref q_t_rowFactors, .ref q_t_columnFactors, .int t_size])), (q_t_cells, .inl (G.2 2, 49, .inr (.inr (.inr (.inl t_cells))))), (q_t_rowFactors, .inl (G.2 2, 7, .inr (.inr (.inr (.inl t_rowFactors))))), (q_t_columnFactors, .inl (G.2 2, 7, .inr (.inr (.inr (.inl t_columnFactors))))), (q_a1, .inr (3, [.ref q_a1_cells, .int a1_size])), (q_a1_cells, .inl (G.2 0, 49, .inl a1_cells))] H → va_D A0 [(q_t, .inr (4, [.ref q_t_cells, .ref q_t_rowFactors, .ref q_t_columnFactors, .int t_size])), (q_t_cells, .inl (G.2 2, 49, .inr (.inr (.inr (.inl t_cells))))), (q_t_rowFactors, .inl (G.2 2, 7, .inr (.inr (.inr (.inl t_rowFactors))))), (q_t_columnFactors, .inl (G.2 2, 7, .inr (.inr (.inr (.inl t_columnFactors))))), (q_a1, .inr (3, [.ref q_a1_cells, .int a1_size])), (q_a1_cells, .inl (G.2 0, 49, .inl a1_cells))] → va_S A0 H0 H locs → lv_has ls 4 [(0, .ref q_t), (1, .ref q_a1), (2, .int x2)] → W p l e ({ frames := 2, cells := 0, slots := 0, locals := 60 } : Room) s m args below meth c H locs 0 0 Q (F0 m 15 ls []) := by
  obtain ⟨hx, hb, hml, hown, hts⟩ := C
  intro n
  induction n with
  | zero => intro x2 t_cells t_rowFactors t_columnFactors h; exact absurd h (fun h => lp_0 h)
  | succ n ih =>
    intro x2 t_cells t_rowFactors t_columnFactors h H locs ls hP hD hS hl
    obtain ⟨y, h, hk⟩ := lp_s h
    rw [f_X5_begin_L1] at h
    refine lv_iload_n hx hb dX5_begin_15 rfl (lv_at hl 2 rfl) ?_
    refine lv_aload_n hx hb dX5_begin_16 rfl (lv_at hl 0 rfl) ?_
    refine va_get (D := G.1) (ci := 4) (v := .int t_size) (C := RX5) (T := TX5) (N := 4) hx hb hts wi_X5_begin_X5 hown hK hP 0 rfl rfl 3 (by decide) (hts _ wd_X5_begin_5) (fun _ h9 => h9) rfl dX5_begin_17 ?_
    refine lv_icmp_ge (tgt := 77) hx hb dX5_begin_20 (by decide) (fun c_4 => ?_) (fun c_4 => ?_)
    · replace h := it_t h c_4
      obtain rfl := sm1 h
      obtain ⟨rfl, rfl, rfl⟩ := sm3 hk
      exact K H locs ls hP hD hS (lv_sub hl [] rfl)
    · replace h := it_f h c_4
      refine lv_aload_n hx hb dX5_begin_23 rfl (lv_at hl 0 rfl) ?_
      refine va_get (D := G.1) (ci := 4) (v := .ref q_t_rowFactors) (C := RX5) (T := TX5) (N := 4) hx hb hts wi_X5_begin_X5 hown hK hP 0 rfl rfl 1 (by decide) (hts _ wd_X5_begin_6) (fun _ h9 => h9) rfl dX5_begin_24 ?_
      refine lv_iload_n hx hb dX5_begin_27 rfl (lv_at hl 2 rfl) ?_
      refine lv_dconst1 hx hb dX5_begin_28 ?_
      obtain ⟨g_5, h⟩ := gd_ok h
      obtain ⟨t_rowFactors_6, et_rowFactors_6, h⟩ := pl_ok h
      refine st_d (D := G.1) (wn := [(q_t, .inr (4, [.ref q_t_cells, .ref q_t_rowFactors, .ref q_t_columnFactors, .int t_size])), (q_t_cells, .inl (G.2 2, 49, .inr (.inr (.inr (.inl t_cells))))), (q_t_rowFactors, .inl (G.2 2, 7, .inr (.inr (.inr (.inl t_rowFactors_6))))), (q_t_columnFactors, .inl (G.2 2, 7, .inr (.inr (.inr (.inl t_columnFactors))))), (q_a1, .inr (3, [.ref q_a1_cells, .int a1_size])), (q_a1_cells, .inl (G.2 0, 49, .inl a1_cells))]) hx hb hK hP hD hS 2 2 rfl rfl g_5 dX5_begin_29 et_rowFactors_6 rfl (fun H locs hP hD hS => ?_)
      refine lv_aload_n hx hb dX5_begin_30 rfl (lv_at hl 0 rfl) ?_
      refine va_get (D := G.1) (ci := 4) (v := .ref q_t_columnFactors) (C := RX5) (T := TX5) (N := 4) hx hb hts wi_X5_begin_X5 hown hK hP 0 rfl rfl 2 (by decide) (hts _ wd_X5_begin_7) (fun _ h9 => h9) rfl dX5_begin_31 ?_
      refine lv_iload_n hx hb dX5_begin_34 rfl (lv_at hl 2 rfl) ?_
      refine lv_dconst1 hx hb dX5_begin_35 ?_
      obtain ⟨g_7, h⟩ := gd_ok h
      obtain ⟨t_columnFactors_8, et_columnFactors_8, h⟩ := pl_ok h
      refine st_d (D := G.1) (wn := [(q_t, .inr (4, [.ref q_t_cells, .ref q_t_rowFactors, .ref q_t_columnFactors, .int t_size])), (q_t_cells, .inl (G.2 2, 49, .inr (.inr (.inr (.inl t_cells))))), (q_t_rowFactors, .inl (G.2 2, 7, .inr (.inr (.inr (.inl t_rowFactors_6))))), (q_t_columnFactors, .inl (G.2 2, 7, .inr (.inr (.inr (.inl t_columnFactors_8))))), (q_a1, .inr (3, [.ref q_a1_cells, .int a1_size])), (q_a1_cells, .inl (G.2 0, 49, .inl a1_cells))]) hx hb hK hP hD hS 3 2 rfl rfl g_7 dX5_begin_36 et_columnFactors_8 rfl (fun H locs hP hD hS => ?_)
      refine lv_iconst (v := 0) hx hb dX5_begin_37 (by decide) ?_
      refine lv_istore_n (lv' := [(3, .int (0 : Int32)), (0, .ref q_t), (1, .ref q_a1), (2, .int x2)]) hx hb dX5_begin_38 rfl hl (by decide) rfl (fun ls hl => ?_)
      obtain ⟨t_cells_15, hz_17, h⟩ := bd_ok h
      refine l_X5_begin_2 ⟨hx, hb, hml, hown, hts⟩ G hK hA q_t q_t_cells q_t_rowFactors q_t_columnFactors q_a1 q_a1_cells x2 t_size t_rowFactors_6 t_columnFactors_8 a1_size a1_cells t_cells_15 ?_ FU (0 : Int32) t_cells hz_17 H locs ls hP hD hS (lv_sub hl [1, 2, 3, 0] rfl)
      intro H locs ls hP hD hS hl
      obtain ⟨x2_18, ex2_18, h⟩ := pl_ok h
      refine lv_iinc (v := x2_18) (lv' := [(2, .int x2_18), (0, .ref q_t), (1, .ref q_a1)]) hx hb dX5_begin_71 hl (k := 2) rfl (by rw [ex2_18]; rfl) (by decide) rfl (fun ls hl => ?_)
      refine lv_goto (tgt := 15) hx hb dX5_begin_74 (by decide) ?_
      obtain rfl := sm1 h
      exact ih x2_18 t_cells_15 t_rowFactors_6 t_columnFactors_8 hk H locs ls hP hD hS (lv_sub hl [1, 2, 0] rfl)
set_option maxHeartbeats 4000000 in
set_option maxRecDepth 100000 in
theorem k_X5_begin {p : Program} {l : Launch} {e : Env} {s : State} {m : MethodId} {args : Array Value} {below : List Frame} {meth : Method} {c : Code} {Q : State → Prop} {A0 : Nat → Prop} {H0 : Heap} (C : CallFix p m c cX5_begin 4 s args wsX5_begin RX5) (G : GT) (hK : gK G s) (hA : ∀ q : Nat, H0.size ≤ q → A0 q) (q_t q_t_cells q_t_rowFactors q_t_columnFactors q_a1 q_a1_cells : Nat) (t_size : Int32) (t_cells : Nat → UInt64) (t_rowFactors : Nat → UInt64) (t_columnFactors : Nat → UInt64) (a1_size : Int32) (a1_cells : Nat → Int32) (o_t_size : Int32) (o_t_cells : Nat → UInt64) (o_t_rowFactors : Nat → UInt64) (o_t_columnFactors : Nat → UInt64) (h : f_X5_begin t_size t_cells t_rowFactors t_columnFactors a1_size a1_cells = some (o_t_size, o_t_cells, o_t_rowFactors, o_t_columnFactors)) (KR : ∀ (H : Heap) (locs : List Loc) (ls : Array Slot) (pc : Nat), decode cX5_begin pc = .ok (.return_, 1) → va_P G.1 vwCl [(q_t, .inr (4, [.ref q_t_cells, .ref q_t_rowFactors, .ref q_t_columnFactors, .int o_t_size])), (q_t_cells, .inl (G.2 2, 49, .inr (.inr (.inr (.inl o_t_cells))))), (q_t_rowFactors, .inl (G.2 2, 7, .inr (.inr (.inr (.inl o_t_rowFactors))))), (q_t_columnFactors, .inl (G.2 2, 7, .inr (.inr (.inr (.inl o_t_columnFactors))))), (q_a1, .inr (3, [.ref q_a1_cells, .int a1_size])), (q_a1_cells, .inl (G.2 0, 49, .inl a1_cells))] H → va_D A0 [(q_t, .inr (4, [.ref q_t_cells, .ref q_t_rowFactors, .ref q_t_columnFactors, .int o_t_size])), (q_t_cells, .inl (G.2 2, 49, .inr (.inr (.inr (.inl o_t_cells))))), (q_t_rowFactors, .inl (G.2 2, 7, .inr (.inr (.inr (.inl o_t_rowFactors))))), (q_t_columnFactors, .inl (G.2 2, 7, .inr (.inr (.inr (.inl o_t_columnFactors))))), (q_a1, .inr (3, [.ref q_a1_cells, .int a1_size])), (q_a1_cells, .inl (G.2 0, 49, .inl a1_cells))] → va_S A0 H0 H locs → W p l e ({ frames := 2, cells := 0, slots := 0, locals := 60 } : Room) s m args below meth c H locs 0 0 Q (F0 m pc ls [])) : ∀ (H : Heap) (locs : List Loc) (ls : Array Slot), va_P G.1 vwCl [(q_t, .inr (4, [.ref q_t_cells, .ref q_t_rowFactors, .ref q_t_columnFactors, .int t_size])), (q_t_cells, .inl (G.2 2, 49, .inr (.inr (.inr (.inl t_cells))))), (q_t_rowFactors, .inl (G.2 2, 7, .inr (.inr (.inr (.inl t_rowFactors))))), (q_t_columnFactors, .inl (G.2 2, 7, .inr (.inr (.inr (.inl t_columnFactors))))), (q_a1, .inr (3, [.ref q_a1_cells, .int a1_size])), (q_a1_cells, .inl (G.2 0, 49, .inl a1_cells))] H → va_D A0 [(q_t, .inr (4, [.ref q_t_cells, .ref q_t_rowFactors, .ref q_t_columnFactors, .int t_size])), (q_t_cells, .inl (G.2 2, 49, .inr (.inr (.inr (.inl t_cells))))), (q_t_rowFactors, .inl (G.2 2, 7, .inr (.inr (.inr (.inl t_rowFactors))))), (q_t_columnFactors, .inl (G.2 2, 7, .inr (.inr (.inr (.inl t_columnFactors))))), (q_a1, .inr (3, [.ref q_a1_cells, .int a1_size])), (q_a1_cells, .inl (G.2 0, 49, .inl a1_cells))] → va_S A0 H0 H locs → lv_has ls 4 [(0, .ref q_t), (1, .ref q_a1)] → W p l e ({ frames := 2, cells := 0, slots := 0, locals := 60 } : Room) s m args below meth c H locs 0 0 Q (F0 m 0 ls []) := by
  obtain ⟨hx, hb, hml, hown, hts⟩ := C
  intro H locs ls hP hD hS hl
  rw [f_X5_begin] at h
  refine lv_aload_n hx hb dX5_begin_0 rfl (lv_at hl 0 rfl) ?_
  refine lv_aload_n hx hb dX5_begin_1 rfl (lv_at hl 1 rfl) ?_
  obtain ⟨r_1, hf_2, h⟩ := bd_ok h
  refine ck_Vi (rest := [.ref q_t]) (wn := [(q_t, .inr (4, [.ref q_t_cells, .ref q_t_rowFactors, .ref q_t_columnFactors, .int t_size])), (q_t_cells, .inl (G.2 2, 49, .inr (.inr (.inr (.inl t_cells))))), (q_t_rowFactors, .inl (G.2 2, 7, .inr (.inr (.inr (.inl t_rowFactors))))), (q_t_columnFactors, .inl (G.2 2, 7, .inr (.inr (.inr (.inl t_columnFactors))))), (q_a1, .inr (3, [.ref q_a1_cells, .int a1_size])), (q_a1_cells, .inl (G.2 0, 49, .inl a1_cells))]) ⟨hx, hb, hml, hown, hts⟩ hK hP hD hS hA [4] [0, 1, 2, 3, 5] [0, 1, 2, 3, 5, 4] (c_X4_size l G q_a1 q_a1_cells _ a1_size _ hf_2) (cwV 0 hts gX5_begin_X4_size rfl rfl rfl (by decide +kernel) ⟨Nat.le_of_ble_eq_true rfl, Nat.le_of_ble_eq_true rfl⟩) rfl rfl rfl rfl rfl rfl (by decide) rfl rfl rfl hl.1 rfl (Nat.le_of_ble_eq_true rfl) dX5_begin_2 ⟨Nat.zero_le _, Nat.zero_le _⟩ (fun H locs hP hD hS => ?_)
  refine lv_bipush (v := 7) hx hb dX5_begin_5 (by decide) ?_
  refine va_mmin hx hb (hml.trans hl.1.symm) hown (hts _ wd_X5_begin_1) (hts _ wd_X5_begin_2) (hts _ wd_X5_begin_3) (hts _ wd_X5_begin_4) (Nat.le_of_ble_eq_true rfl) (Nat.le_of_ble_eq_true rfl) (Nat.zero_le _) (Nat.zero_le _) dX5_begin_7 ?_
  refine lv_topi (fun t_size_3 et_size_3 => ?_)
  replace h := pl_v h et_size_3
  refine st_put (D := G.1) (ci := 4) (v := .int t_size_3) (ty := .int) (C := RX5) (T := TX5) (N := 4) (wn := [(q_t, .inr (4, [.ref q_t_cells, .ref q_t_rowFactors, .ref q_t_columnFactors, .int t_size_3])), (q_t_cells, .inl (G.2 2, 49, .inr (.inr (.inr (.inl t_cells))))), (q_t_rowFactors, .inl (G.2 2, 7, .inr (.inr (.inr (.inl t_rowFactors))))), (q_t_columnFactors, .inl (G.2 2, 7, .inr (.inr (.inr (.inl t_columnFactors))))), (q_a1, .inr (3, [.ref q_a1_cells, .int a1_size])), (q_a1_cells, .inl (G.2 0, 49, .inl a1_cells))]) hx hb hts wi_X5_begin_X5 tyX5 tyX5_ok nmX5 hown hK hP hD hS 0 rfl rfl 3 (by decide) (hts _ wd_X5_begin_5) (fun _ h9 => h9) rfl (by decide +kernel) rfl rfl (Nat.le_of_ble_eq_true rfl) dX5_begin_10 rfl (fun H locs hP hD hS => ?_)
  refine lv_iconst (v := 0) hx hb dX5_begin_13 (by decide) ?_
  refine lv_istore_n (lv' := [(2, .int (0 : Int32)), (0, .ref q_t), (1, .ref q_a1)]) hx hb dX5_begin_14 rfl hl (by decide) rfl (fun ls hl => ?_)
  obtain ⟨⟨t_cells_19, t_rowFactors_20, t_columnFactors_21⟩, hz_23, h⟩ := bd_ok h
  refine l_X5_begin_1 ⟨hx, hb, hml, hown, hts⟩ G hK hA q_t q_t_cells q_t_rowFactors q_t_columnFactors q_a1 q_a1_cells t_size_3 a1_size a1_cells t_cells_19 t_rowFactors_20 t_columnFactors_21 ?_ FU (0 : Int32) t_cells t_rowFactors t_columnFactors hz_23 H locs ls hP hD hS (lv_sub hl [1, 2, 0] rfl)
  intro H locs ls hP hD hS hl
  obtain ⟨rfl, rfl, rfl, rfl⟩ := sm4 h
  exact KR H locs ls 77 dX5_begin_77 hP hD hS
set_option maxHeartbeats 4000000 in
set_option maxRecDepth 100000 in
theorem c_X5_begin (l : Launch) (G : GT) (q_t q_t_cells q_t_rowFactors q_t_columnFactors q_a1 q_a1_cells : Nat) (sz : Nat) (t_size : Int32) (t_cells : Nat → UInt64) (t_rowFactors : Nat → UInt64) (t_columnFactors : Nat → UInt64) (a1_size : Int32) (a1_cells : Nat → Int32) (o_t_size : Int32) (o_t_cells : Nat → UInt64) (o_t_rowFactors : Nat → UInt64) (o_t_columnFactors : Nat → UInt64) (h : f_X5_begin t_size t_cells t_rowFactors t_columnFactors a1_size a1_cells = some (o_t_size, o_t_cells, o_t_rowFactors, o_t_columnFactors)) : Met l yX5_begin wsX5_begin ({ frames := 2, cells := 0, slots := 0, locals := 60 } : Room) (va_Pc [.ref q_t, .ref q_a1] (pcW G [(q_t, .inr (4, [.ref q_t_cells, .ref q_t_rowFactors, .ref q_t_columnFactors, .int t_size])), (q_t_cells, .inl (G.2 2, 49, .inr (.inr (.inr (.inl t_cells))))), (q_t_rowFactors, .inl (G.2 2, 7, .inr (.inr (.inr (.inl t_rowFactors))))), (q_t_columnFactors, .inl (G.2 2, 7, .inr (.inr (.inr (.inl t_columnFactors))))), (q_a1, .inr (3, [.ref q_a1_cells, .int a1_size])), (q_a1_cells, .inl (G.2 0, 49, .inl a1_cells))] sz)) (va_Qv (fun (_ : Unit) => True) (fun _ t => atW G (va_A [(q_t, .inr (4, [.ref q_t_cells, .ref q_t_rowFactors, .ref q_t_columnFactors, .int t_size])), (q_t_cells, .inl (G.2 2, 49, .inr (.inr (.inr (.inl t_cells))))), (q_t_rowFactors, .inl (G.2 2, 7, .inr (.inr (.inr (.inl t_rowFactors))))), (q_t_columnFactors, .inl (G.2 2, 7, .inr (.inr (.inr (.inl t_columnFactors))))), (q_a1, .inr (3, [.ref q_a1_cells, .int a1_size])), (q_a1_cells, .inl (G.2 0, 49, .inl a1_cells))] sz) [(q_t, .inr (4, [.ref q_t_cells, .ref q_t_rowFactors, .ref q_t_columnFactors, .int o_t_size])), (q_t_cells, .inl (G.2 2, 49, .inr (.inr (.inr (.inl o_t_cells))))), (q_t_rowFactors, .inl (G.2 2, 7, .inr (.inr (.inr (.inl o_t_rowFactors))))), (q_t_columnFactors, .inl (G.2 2, 7, .inr (.inr (.inr (.inl o_t_columnFactors))))), (q_a1, .inr (3, [.ref q_a1_cells, .int a1_size])), (q_a1_cells, .inl (G.2 0, 49, .inl a1_cells))] t) (va_A [(q_t, .inr (4, [.ref q_t_cells, .ref q_t_rowFactors, .ref q_t_columnFactors, .int t_size])), (q_t_cells, .inl (G.2 2, 49, .inr (.inr (.inr (.inl t_cells))))), (q_t_rowFactors, .inl (G.2 2, 7, .inr (.inr (.inr (.inl t_rowFactors))))), (q_t_columnFactors, .inl (G.2 2, 7, .inr (.inr (.inr (.inl t_columnFactors))))), (q_a1, .inr (3, [.ref q_a1_cells, .int a1_size])), (q_a1_cells, .inl (G.2 0, 49, .inl a1_cells))] sz)) 0 0 (va_A [(q_t, .inr (4, [.ref q_t_cells, .ref q_t_rowFactors, .ref q_t_columnFactors, .int t_size])), (q_t_cells, .inl (G.2 2, 49, .inr (.inr (.inr (.inl t_cells))))), (q_t_rowFactors, .inl (G.2 2, 7, .inr (.inr (.inr (.inl t_rowFactors))))), (q_t_columnFactors, .inl (G.2 2, 7, .inr (.inr (.inr (.inl t_columnFactors))))), (q_a1, .inr (3, [.ref q_a1_cells, .int a1_size])), (q_a1_cells, .inl (G.2 0, 49, .inl a1_cells))] sz) := by
  refine Met.ofW (cc := cX5_begin) (maxL := 4) (ret := none) (by decide) rfl ?_
  intro p e s m args below meth c s₁ B hml hv
  obtain ⟨rfl, hsz, hP, hK, hD0⟩ := hv
  subst hsz
  have hD := hD0.self (sz := s.heap.size)
  generalize hAe : va_A [(q_t, .inr (4, [.ref q_t_cells, .ref q_t_rowFactors, .ref q_t_columnFactors, .int t_size])), (q_t_cells, .inl (G.2 2, 49, .inr (.inr (.inr (.inl t_cells))))), (q_t_rowFactors, .inl (G.2 2, 7, .inr (.inr (.inr (.inl t_rowFactors))))), (q_t_columnFactors, .inl (G.2 2, 7, .inr (.inr (.inr (.inl t_columnFactors))))), (q_a1, .inr (3, [.ref q_a1_cells, .int a1_size])), (q_a1_cells, .inl (G.2 0, 49, .inl a1_cells))] s.heap.size = A at hD ⊢
  have hA : ∀ q : Nat, s.heap.size ≤ q → A q := fun q h => by rw [← hAe]; exact Or.inr h
  have hl := lv_entry ([.ref q_t, .ref q_a1]) (n := 4) (Nat.le_of_ble_eq_true rfl)
  rw [lg_entry_eq]
  refine k_X5_begin ⟨B.exec, B.bytes, hml, findClass_of_methodNamed B.named, atoms_spec (ws := wsX5_begin) B.pre⟩ G hK hA q_t q_t_cells q_t_rowFactors q_t_columnFactors q_a1 q_a1_cells _ _ _ _ _ _ _ _ _ _ h ?_ _ _ _ hP hD va_S.rf hl
  intro H locs ls pc hd hP hD hS
  exact W.vret B.exec B.bytes B.returns (fun t ht hW => ⟨⟨(), rfl, trivial, by rw [ht]; exact hP, hD⟩, hS.F ht⟩) hS.2.2 hd B.notSynchronized
set_option maxRecDepth 20000 in
theorem wd_X5_at_1 : Cond.fieldLink RX5 21 "PermanentDesk$Scaling" "size" "I" ∈ wsX5_at := List.mem_of_getElem? (i := 1) (by decide +kernel)
set_option maxRecDepth 20000 in
theorem wi_X5_at_X5 : ∀ w ∈ u_ws RX5 TX5 4, w ∈ wsX5_at := by decide +kernel
set_option maxRecDepth 20000 in
theorem wd_X5_at_2 : Cond.fieldLink RX5 9 "PermanentDesk$Scaling" "cells" "[D" ∈ wsX5_at := List.mem_of_getElem? (i := 2) (by decide +kernel)
def f_X5_at (t_size : Int32) (t_cells : Nat → UInt64) (a1 : Int32) (a2 : Int32) : Option UInt64 :=
  Option.bind (
    if a1 < 0 then
      some (0 : Int32)
    else
      if t_size ≤ a1 then
        some (0 : Int32)
      else
        if a2 < 0 then
          some (0 : Int32)
        else
          if t_size ≤ a2 then
            some (0 : Int32)
          else
            some (1 : Int32)) (fun y_2 =>
  if y_2 = 0 then
    some FP.dconst0
  else
    gd (okI ((a1 * (7 : Int32)) + a2) 49) (
    some (t_cells ((a1 * (7 : Int32)) + a2).toNatClampNeg)))
set_option maxHeartbeats 4000000 in
set_option maxRecDepth 100000 in
theorem k_X5_at {p : Program} {l : Launch} {e : Env} {s : State} {m : MethodId} {args : Array Value} {below : List Frame} {meth : Method} {c : Code} {Q : State → Prop} {A0 : Nat → Prop} {H0 : Heap} (C : CallFix p m c cX5_at 4 s args wsX5_at RX5) (G : GT) (hK : gK G s) (hA : ∀ q : Nat, H0.size ≤ q → A0 q) (q_t q_t_cells q_t_rowFactors q_t_columnFactors : Nat) (t_size : Int32) (t_cells : Nat → UInt64) (a1 : Int32) (a2 : Int32) (r : UInt64) (h : f_X5_at t_size t_cells a1 a2 = some r) (KR : ∀ (H : Heap) (locs : List Loc) (ls : Array Slot) (pc : Nat), decode cX5_at pc = .ok (.dreturn, 1) → va_P G.1 vwCl [(q_t, .inr (4, [.ref q_t_cells, .ref q_t_rowFactors, .ref q_t_columnFactors, .int t_size])), (q_t_cells, .inl (G.2 2, 49, .inr (.inr (.inr (.inl t_cells)))))] H → va_D A0 [(q_t, .inr (4, [.ref q_t_cells, .ref q_t_rowFactors, .ref q_t_columnFactors, .int t_size])), (q_t_cells, .inl (G.2 2, 49, .inr (.inr (.inr (.inl t_cells)))))] → va_S A0 H0 H locs → W p l e ({ frames := 0, cells := 0, slots := 0, locals := 0 } : Room) s m args below meth c H locs 0 0 Q (F0 m pc ls [.double r])) : ∀ (H : Heap) (locs : List Loc) (ls : Array Slot), va_P G.1 vwCl [(q_t, .inr (4, [.ref q_t_cells, .ref q_t_rowFactors, .ref q_t_columnFactors, .int t_size])), (q_t_cells, .inl (G.2 2, 49, .inr (.inr (.inr (.inl t_cells)))))] H → va_D A0 [(q_t, .inr (4, [.ref q_t_cells, .ref q_t_rowFactors, .ref q_t_columnFactors, .int t_size])), (q_t_cells, .inl (G.2 2, 49, .inr (.inr (.inr (.inl t_cells)))))] → va_S A0 H0 H locs → lv_has ls 4 [(0, .ref q_t), (1, .int a1), (2, .int a2)] → W p l e ({ frames := 0, cells := 0, slots := 0, locals := 0 } : Room) s m args below meth c H locs 0 0 Q (F0 m 0 ls []) := by
  obtain ⟨hx, hb, hml, hown, hts⟩ := C
  intro H locs ls hP hD hS hl
  rw [f_X5_at] at h
  refine lv_iload_n hx hb dX5_at_0 rfl (lv_at hl 1 rfl) ?_
  obtain ⟨y_2, hr, h⟩ := bd_ok h
  have J : ∀ (H : Heap) (locs : List Loc) (ls : Array Slot), va_P G.1 vwCl [(q_t, .inr (4, [.ref q_t_cells, .ref q_t_rowFactors, .ref q_t_columnFactors, .int t_size])), (q_t_cells, .inl (G.2 2, 49, .inr (.inr (.inr (.inl t_cells)))))] H → va_D A0 [(q_t, .inr (4, [.ref q_t_cells, .ref q_t_rowFactors, .ref q_t_columnFactors, .int t_size])), (q_t_cells, .inl (G.2 2, 49, .inr (.inr (.inr (.inl t_cells)))))] → va_S A0 H0 H locs → lv_has ls 4 [(0, .ref q_t), (1, .int a1), (2, .int a2)] → W p l e ({ frames := 0, cells := 0, slots := 0, locals := 0 } : Room) s m args below meth c H locs 0 0 Q (F0 m 29 ls [.int y_2]) := by
    intro H locs ls hP hD hS hl
    refine lv_istore_n (lv' := [(3, .int y_2), (0, .ref q_t), (1, .int a1), (2, .int a2)]) hx hb dX5_at_29 rfl hl (by decide) rfl (fun ls hl => ?_)
    refine lv_iload_n hx hb dX5_at_30 rfl (lv_at hl 0 rfl) ?_
    refine lv_if_eq (tgt := 48) hx hb dX5_at_31 (by decide) (fun c_6 => ?_) (fun c_6 => ?_)
    · replace h := it_t h c_6
      refine lv_dconst0 hx hb dX5_at_48 ?_
      obtain rfl := sm1 h
      exact KR H locs ls 49 dX5_at_49 hP hD hS
    · replace h := it_f h c_6
      refine lv_aload_n hx hb dX5_at_34 rfl (lv_at hl 1 rfl) ?_
      refine va_get (D := G.1) (ci := 4) (v := .ref q_t_cells) (C := RX5) (T := TX5) (N := 4) hx hb hts wi_X5_at_X5 hown hK hP 0 rfl rfl 0 (by decide) (hts _ wd_X5_at_2) (fun _ h9 => h9) rfl dX5_at_35 ?_
      refine lv_iload_n hx hb dX5_at_38 rfl (lv_at hl 2 rfl) ?_
      refine lv_bipush (v := 7) hx hb dX5_at_39 (by decide) ?_
      refine lv_imul hx hb dX5_at_41 ?_
      refine lv_iload_n hx hb dX5_at_42 rfl (lv_at hl 3 rfl) ?_
      refine lv_iadd hx hb dX5_at_43 ?_
      obtain ⟨g_7, h⟩ := gd_ok h
      refine va_dald (D := G.1) hx hb hK hP 1 2 rfl rfl g_7 dX5_at_44 ?_
      refine lv_goto (tgt := 49) hx hb dX5_at_45 (by decide) ?_
      obtain rfl := sm1 h
      exact KR H locs ls 49 dX5_at_49 hP hD hS
  replace h := hr
  clear hr
  refine lv_if_lt (tgt := 28) hx hb dX5_at_1 (by decide) (fun c_1 => ?_) (fun c_1 => ?_)
  · replace h := it_t h c_1
    refine lv_iconst (v := 0) hx hb dX5_at_28 (by decide) ?_
    obtain rfl := sm1 h
    exact J H locs ls hP hD hS (lv_sub hl [0, 1, 2] rfl)
  · replace h := it_f h c_1
    refine lv_iload_n hx hb dX5_at_4 rfl (lv_at hl 1 rfl) ?_
    refine lv_aload_n hx hb dX5_at_5 rfl (lv_at hl 0 rfl) ?_
    refine va_get (D := G.1) (ci := 4) (v := .int t_size) (C := RX5) (T := TX5) (N := 4) hx hb hts wi_X5_at_X5 hown hK hP 0 rfl rfl 3 (by decide) (hts _ wd_X5_at_1) (fun _ h9 => h9) rfl dX5_at_6 ?_
    refine lv_icmp_ge (tgt := 28) hx hb dX5_at_9 (by decide) (fun c_3 => ?_) (fun c_3 => ?_)
    · replace h := it_t h c_3
      refine lv_iconst (v := 0) hx hb dX5_at_28 (by decide) ?_
      obtain rfl := sm1 h
      exact J H locs ls hP hD hS (lv_sub hl [0, 1, 2] rfl)
    · replace h := it_f h c_3
      refine lv_iload_n hx hb dX5_at_12 rfl (lv_at hl 2 rfl) ?_
      refine lv_if_lt (tgt := 28) hx hb dX5_at_13 (by decide) (fun c_4 => ?_) (fun c_4 => ?_)
      · replace h := it_t h c_4
        refine lv_iconst (v := 0) hx hb dX5_at_28 (by decide) ?_
        obtain rfl := sm1 h
        exact J H locs ls hP hD hS (lv_sub hl [0, 1, 2] rfl)
      · replace h := it_f h c_4
        refine lv_iload_n hx hb dX5_at_16 rfl (lv_at hl 2 rfl) ?_
        refine lv_aload_n hx hb dX5_at_17 rfl (lv_at hl 0 rfl) ?_
        refine va_get (D := G.1) (ci := 4) (v := .int t_size) (C := RX5) (T := TX5) (N := 4) hx hb hts wi_X5_at_X5 hown hK hP 0 rfl rfl 3 (by decide) (hts _ wd_X5_at_1) (fun _ h9 => h9) rfl dX5_at_18 ?_
        refine lv_icmp_ge (tgt := 28) hx hb dX5_at_21 (by decide) (fun c_5 => ?_) (fun c_5 => ?_)
        · replace h := it_t h c_5
          refine lv_iconst (v := 0) hx hb dX5_at_28 (by decide) ?_
          obtain rfl := sm1 h
          exact J H locs ls hP hD hS (lv_sub hl [0, 1, 2] rfl)
        · replace h := it_f h c_5
          refine lv_iconst (v := 1) hx hb dX5_at_24 (by decide) ?_
          refine lv_goto (tgt := 29) hx hb dX5_at_25 (by decide) ?_
          obtain rfl := sm1 h
          exact J H locs ls hP hD hS (lv_sub hl [0, 1, 2] rfl)
set_option maxHeartbeats 4000000 in
set_option maxRecDepth 100000 in
theorem c_X5_at (l : Launch) (G : GT) (q_t q_t_cells q_t_rowFactors q_t_columnFactors : Nat) (sz : Nat) (t_size : Int32) (t_cells : Nat → UInt64) (a1 : Int32) (a2 : Int32) (r : UInt64) (h : f_X5_at t_size t_cells a1 a2 = some r) : Met l yX5_at wsX5_at ({ frames := 0, cells := 0, slots := 0, locals := 0 } : Room) (va_Pc [.ref q_t, .int a1, .int a2] (pcW G [(q_t, .inr (4, [.ref q_t_cells, .ref q_t_rowFactors, .ref q_t_columnFactors, .int t_size])), (q_t_cells, .inl (G.2 2, 49, .inr (.inr (.inr (.inl t_cells)))))] sz)) (va_Qd (fun r9 (_ : Unit) => r9 = r) (fun _ t => atW G (va_A [(q_t, .inr (4, [.ref q_t_cells, .ref q_t_rowFactors, .ref q_t_columnFactors, .int t_size])), (q_t_cells, .inl (G.2 2, 49, .inr (.inr (.inr (.inl t_cells)))))] sz) [(q_t, .inr (4, [.ref q_t_cells, .ref q_t_rowFactors, .ref q_t_columnFactors, .int t_size])), (q_t_cells, .inl (G.2 2, 49, .inr (.inr (.inr (.inl t_cells)))))] t) (va_A [(q_t, .inr (4, [.ref q_t_cells, .ref q_t_rowFactors, .ref q_t_columnFactors, .int t_size])), (q_t_cells, .inl (G.2 2, 49, .inr (.inr (.inr (.inl t_cells)))))] sz)) 0 0 (va_A [(q_t, .inr (4, [.ref q_t_cells, .ref q_t_rowFactors, .ref q_t_columnFactors, .int t_size])), (q_t_cells, .inl (G.2 2, 49, .inr (.inr (.inr (.inl t_cells)))))] sz) := by
  refine Met.ofW (cc := cX5_at) (maxL := 4) (ret := (some .double)) (by decide) rfl ?_
  intro p e s m args below meth c s₁ B hml hv
  obtain ⟨rfl, hsz, hP, hK, hD0⟩ := hv
  subst hsz
  have hD := hD0.self (sz := s.heap.size)
  generalize hAe : va_A [(q_t, .inr (4, [.ref q_t_cells, .ref q_t_rowFactors, .ref q_t_columnFactors, .int t_size])), (q_t_cells, .inl (G.2 2, 49, .inr (.inr (.inr (.inl t_cells)))))] s.heap.size = A at hD ⊢
  have hA : ∀ q : Nat, s.heap.size ≤ q → A q := fun q h => by rw [← hAe]; exact Or.inr h
  have hl := lv_entry ([.ref q_t, .int a1, .int a2]) (n := 4) (Nat.le_of_ble_eq_true rfl)
  rw [lg_entry_eq]
  refine k_X5_at ⟨B.exec, B.bytes, hml, findClass_of_methodNamed B.named, atoms_spec (ws := wsX5_at) B.pre⟩ G hK hA q_t q_t_cells q_t_rowFactors q_t_columnFactors _ _ _ _ _ h ?_ _ _ _ hP hD va_S.rf hl
  intro H locs ls pc hd hP hD hS
  exact W.dret B.exec B.bytes B.returns (fun t ht hW => ⟨⟨r, (), rfl, rfl, by rw [ht]; exact hP, hD⟩, hS.F ht⟩) hS.2.2 hd B.notSynchronized
set_option maxRecDepth 20000 in
theorem wd_X5_sumOfRow_1 : Cond.fieldLink RX5 21 "PermanentDesk$Scaling" "size" "I" ∈ wsX5_sumOfRow := List.mem_of_getElem? (i := 1) (by decide +kernel)
set_option maxRecDepth 20000 in
theorem wi_X5_sumOfRow_X5 : ∀ w ∈ u_ws RX5 TX5 4, w ∈ wsX5_sumOfRow := by decide +kernel
def f_X5_sumOfRow_L1 (x1 : Int32) (t_size : Int32) (t_cells : Nat → UInt64) : (UInt64 × Int32) → Option ((UInt64 × Int32) ⊕ UInt64)
  | (x2, x4) =>
    if t_size ≤ x4 then
      some (.inr x2)
    else
      (f_X5_at t_size t_cells x1 x4).bind (fun r_2 =>
      gd (okD (FP.dadd x2 r_2)) (
      pl ((FP.dadd x2 r_2) : UInt64) (fun x2_5 =>
      pl ((x4 + (1 : Int32)) : Int32) (fun x4_6 =>
      some (.inl (x2_5, x4_6))))))
def f_X5_sumOfRow (t_size : Int32) (t_cells : Nat → UInt64) (a1 : Int32) : Option UInt64 :=
  (lpN (f_X5_sumOfRow_L1 a1 t_size t_cells) FU (FP.dconst0, (0 : Int32))).bind (fun x2_7 =>
  some x2_7)
set_option maxHeartbeats 4000000 in
set_option maxRecDepth 100000 in
theorem l_X5_sumOfRow_1 {p : Program} {l : Launch} {e : Env} {s : State} {m : MethodId} {args : Array Value} {below : List Frame} {meth : Method} {c : Code} {Q : State → Prop} {A0 : Nat → Prop} {H0 : Heap} (C : CallFix p m c cX5_sumOfRow 5 s args wsX5_sumOfRow RX5) (G : GT) (hK : gK G s) (hA : ∀ q : Nat, H0.size ≤ q → A0 q) (q_t q_t_cells q_t_rowFactors q_t_columnFactors : Nat) (x1 : Int32) (t_size : Int32) (t_cells : Nat → UInt64) (E_x2 : UInt64) (K : ∀ (H : Heap) (locs : List Loc) (ls : Array Slot), va_P G.1 vwCl [(q_t, .inr (4, [.ref q_t_cells, .ref q_t_rowFactors, .ref q_t_columnFactors, .int t_size])), (q_t_cells, .inl (G.2 2, 49, .inr (.inr (.inr (.inl t_cells)))))] H → va_D A0 [(q_t, .inr (4, [.ref q_t_cells, .ref q_t_rowFactors, .ref q_t_columnFactors, .int t_size])), (q_t_cells, .inl (G.2 2, 49, .inr (.inr (.inr (.inl t_cells)))))] → va_S A0 H0 H locs → lv_has ls 5 [(2, .double E_x2)] → W p l e ({ frames := 1, cells := 0, slots := 0, locals := 23 } : Room) s m args below meth c H locs 0 0 Q (F0 m 30 ls [])) : ∀ (n : Nat) (x2 : UInt64) (x4 : Int32), lpN (f_X5_sumOfRow_L1 x1 t_size t_cells) n (x2, x4) = some E_x2 → ∀ (H : Heap) (locs : List Loc) (ls : Array Slot), va_P G.1 vwCl [(q_t, .inr (4, [.ref q_t_cells, .ref q_t_rowFactors, .ref q_t_columnFactors, .int t_size])), (q_t_cells, .inl (G.2 2, 49, .inr (.inr (.inr (.inl t_cells)))))] H → va_D A0 [(q_t, .inr (4, [.ref q_t_cells, .ref q_t_rowFactors, .ref q_t_columnFactors, .int t_size])), (q_t_cells, .inl (G.2 2, 49, .inr (.inr (.inr (.inl t_cells)))))] → va_S A0 H0 H locs → lv_has ls 5 [(0, .ref q_t), (1, .int x1), (2, .double x2), (4, .int x4)] → W p l e ({ frames := 1, cells := 0, slots := 0, locals := 23 } : Room) s m args below meth c H locs 0 0 Q (F0 m 5 ls []) := by
  obtain ⟨hx, hb, hml, hown, hts⟩ := C
  intro n
  induction n with
  | zero => intro x2 x4 h; exact absurd h (fun h => lp_0 h)
  | succ n ih =>
    intro x2 x4 h H locs ls hP hD hS hl
    obtain ⟨y, h, hk⟩ := lp_s h
    rw [f_X5_sumOfRow_L1] at h
    refine lv_iload hx hb dX5_sumOfRow_5 (lv_at hl 3 rfl) ?_
    refine lv_aload_n hx hb dX5_sumOfRow_7 rfl (lv_at hl 0 rfl) ?_
    refine va_get (D := G.1) (ci := 4) (v := .int t_size) (C := RX5) (T := TX5) (N := 4) hx hb hts wi_X5_sumOfRow_X5 hown hK hP 0 rfl rfl 3 (by decide) (hts _ wd_X5_sumOfRow_1) (fun _ h9 => h9) rfl dX5_sumOfRow_8 ?_
    refine lv_icmp_ge (tgt := 30) hx hb dX5_sumOfRow_11 (by decide) (fun c_1 => ?_) (fun c_1 => ?_)
    · replace h := it_t h c_1
      obtain rfl := sm1 h
      obtain rfl := sm1 hk
      exact K H locs ls hP hD hS (lv_sub hl [2] rfl)
    · replace h := it_f h c_1
      refine lv_dload_n hx hb dX5_sumOfRow_14 rfl (lv_at hl 2 rfl) ?_
      refine lv_aload_n hx hb dX5_sumOfRow_15 rfl (lv_at hl 0 rfl) ?_
      refine lv_iload_n hx hb dX5_sumOfRow_16 rfl (lv_at hl 1 rfl) ?_
      refine lv_iload hx hb dX5_sumOfRow_17 (lv_at hl 3 rfl) ?_
      obtain ⟨r_2, hf_3, h⟩ := bd_ok h
      refine ck_Vd (rest := [.double x2]) (wn := [(q_t, .inr (4, [.ref q_t_cells, .ref q_t_rowFactors, .ref q_t_columnFactors, .int t_size])), (q_t_cells, .inl (G.2 2, 49, .inr (.inr (.inr (.inl t_cells)))))]) ⟨hx, hb, hml, hown, hts⟩ hK hP hD hS hA [0, 1] [] [0, 1] (c_X5_at l G q_t q_t_cells q_t_rowFactors q_t_columnFactors _ t_size t_cells x1 x4 _ hf_3) (cwV 2 hts gX5_sumOfRow_X5_at rfl rfl rfl (by decide +kernel) ⟨Nat.le_of_ble_eq_true rfl, Nat.le_of_ble_eq_true rfl⟩) rfl rfl rfl rfl rfl rfl (by decide) rfl rfl rfl hl.1 rfl (Nat.le_of_ble_eq_true rfl) dX5_sumOfRow_19 ⟨Nat.zero_le _, Nat.zero_le _⟩ (fun H locs hP hD hS => ?_)
      obtain ⟨g_4, h⟩ := gd_ok h
      refine lv_dadd hx hb dX5_sumOfRow_22 g_4 ?_
      refine lv_topd (fun x2_5 ex2_5 => ?_)
      replace h := pl_v h ex2_5
      refine lv_dstore_n (lv' := [(2, .double x2_5), (0, .ref q_t), (1, .int x1), (4, .int x4)]) hx hb dX5_sumOfRow_23 rfl hl (by decide) rfl (fun ls hl => ?_)
      obtain ⟨x4_6, ex4_6, h⟩ := pl_ok h
      refine lv_iinc (v := x4_6) (lv' := [(4, .int x4_6), (2, .double x2_5), (0, .ref q_t), (1, .int x1)]) hx hb dX5_sumOfRow_24 hl (k := 3) rfl (by rw [ex4_6]; rfl) (by decide) rfl (fun ls hl => ?_)
      refine lv_goto (tgt := 5) hx hb dX5_sumOfRow_27 (by decide) ?_
      obtain rfl := sm1 h
      exact ih x2_5 x4_6 hk H locs ls hP hD hS (lv_sub hl [2, 3, 1, 0] rfl)
set_option maxHeartbeats 4000000 in
set_option maxRecDepth 100000 in
theorem k_X5_sumOfRow {p : Program} {l : Launch} {e : Env} {s : State} {m : MethodId} {args : Array Value} {below : List Frame} {meth : Method} {c : Code} {Q : State → Prop} {A0 : Nat → Prop} {H0 : Heap} (C : CallFix p m c cX5_sumOfRow 5 s args wsX5_sumOfRow RX5) (G : GT) (hK : gK G s) (hA : ∀ q : Nat, H0.size ≤ q → A0 q) (q_t q_t_cells q_t_rowFactors q_t_columnFactors : Nat) (t_size : Int32) (t_cells : Nat → UInt64) (a1 : Int32) (r : UInt64) (h : f_X5_sumOfRow t_size t_cells a1 = some r) (KR : ∀ (H : Heap) (locs : List Loc) (ls : Array Slot) (pc : Nat), decode cX5_sumOfRow pc = .ok (.dreturn, 1) → va_P G.1 vwCl [(q_t, .inr (4, [.ref q_t_cells, .ref q_t_rowFactors, .ref q_t_columnFactors, .int t_size])), (q_t_cells, .inl (G.2 2, 49, .inr (.inr (.inr (.inl t_cells)))))] H → va_D A0 [(q_t, .inr (4, [.ref q_t_cells, .ref q_t_rowFactors, .ref q_t_columnFactors, .int t_size])), (q_t_cells, .inl (G.2 2, 49, .inr (.inr (.inr (.inl t_cells)))))] → va_S A0 H0 H locs → W p l e ({ frames := 1, cells := 0, slots := 0, locals := 23 } : Room) s m args below meth c H locs 0 0 Q (F0 m pc ls [.double r])) : ∀ (H : Heap) (locs : List Loc) (ls : Array Slot), va_P G.1 vwCl [(q_t, .inr (4, [.ref q_t_cells, .ref q_t_rowFactors, .ref q_t_columnFactors, .int t_size])), (q_t_cells, .inl (G.2 2, 49, .inr (.inr (.inr (.inl t_cells)))))] H → va_D A0 [(q_t, .inr (4, [.ref q_t_cells, .ref q_t_rowFactors, .ref q_t_columnFactors, .int t_size])), (q_t_cells, .inl (G.2 2, 49, .inr (.inr (.inr (.inl t_cells)))))] → va_S A0 H0 H locs → lv_has ls 5 [(0, .ref q_t), (1, .int a1)] → W p l e ({ frames := 1, cells := 0, slots := 0, locals := 23 } : Room) s m args below meth c H locs 0 0 Q (F0 m 0 ls []) := by
  obtain ⟨hx, hb, hml, hown, hts⟩ := C
  intro H locs ls hP hD hS hl
  rw [f_X5_sumOfRow] at h
  refine lv_dconst0 hx hb dX5_sumOfRow_0 ?_
  refine lv_dstore_n (lv' := [(2, .double FP.dconst0), (0, .ref q_t), (1, .int a1)]) hx hb dX5_sumOfRow_1 rfl hl (by decide) rfl (fun ls hl => ?_)
  refine lv_iconst (v := 0) hx hb dX5_sumOfRow_2 (by decide) ?_
  refine lv_istore (lv' := [(4, .int (0 : Int32)), (2, .double FP.dconst0), (0, .ref q_t), (1, .int a1)]) hx hb dX5_sumOfRow_3 hl (by decide) rfl (fun ls hl => ?_)
  obtain ⟨x2_7, hz_9, h⟩ := bd_ok h
  refine l_X5_sumOfRow_1 ⟨hx, hb, hml, hown, hts⟩ G hK hA q_t q_t_cells q_t_rowFactors q_t_columnFactors a1 t_size t_cells x2_7 ?_ FU FP.dconst0 (0 : Int32) hz_9 H locs ls hP hD hS (lv_sub hl [2, 3, 1, 0] rfl)
  intro H locs ls hP hD hS hl
  refine lv_dload_n hx hb dX5_sumOfRow_30 rfl (lv_at hl 0 rfl) ?_
  obtain rfl := sm1 h
  exact KR H locs ls 31 dX5_sumOfRow_31 hP hD hS
set_option maxHeartbeats 4000000 in
set_option maxRecDepth 100000 in
theorem c_X5_sumOfRow (l : Launch) (G : GT) (q_t q_t_cells q_t_rowFactors q_t_columnFactors : Nat) (sz : Nat) (t_size : Int32) (t_cells : Nat → UInt64) (a1 : Int32) (r : UInt64) (h : f_X5_sumOfRow t_size t_cells a1 = some r) : Met l yX5_sumOfRow wsX5_sumOfRow ({ frames := 1, cells := 0, slots := 0, locals := 23 } : Room) (va_Pc [.ref q_t, .int a1] (pcW G [(q_t, .inr (4, [.ref q_t_cells, .ref q_t_rowFactors, .ref q_t_columnFactors, .int t_size])), (q_t_cells, .inl (G.2 2, 49, .inr (.inr (.inr (.inl t_cells)))))] sz)) (va_Qd (fun r9 (_ : Unit) => r9 = r) (fun _ t => atW G (va_A [(q_t, .inr (4, [.ref q_t_cells, .ref q_t_rowFactors, .ref q_t_columnFactors, .int t_size])), (q_t_cells, .inl (G.2 2, 49, .inr (.inr (.inr (.inl t_cells)))))] sz) [(q_t, .inr (4, [.ref q_t_cells, .ref q_t_rowFactors, .ref q_t_columnFactors, .int t_size])), (q_t_cells, .inl (G.2 2, 49, .inr (.inr (.inr (.inl t_cells)))))] t) (va_A [(q_t, .inr (4, [.ref q_t_cells, .ref q_t_rowFactors, .ref q_t_columnFactors, .int t_size])), (q_t_cells, .inl (G.2 2, 49, .inr (.inr (.inr (.inl t_cells)))))] sz)) 0 0 (va_A [(q_t, .inr (4, [.ref q_t_cells, .ref q_t_rowFactors, .ref q_t_columnFactors, .int t_size])), (q_t_cells, .inl (G.2 2, 49, .inr (.inr (.inr (.inl t_cells)))))] sz) := by
  refine Met.ofW (cc := cX5_sumOfRow) (maxL := 5) (ret := (some .double)) (by decide) rfl ?_
  intro p e s m args below meth c s₁ B hml hv
  obtain ⟨rfl, hsz, hP, hK, hD0⟩ := hv
  subst hsz
  have hD := hD0.self (sz := s.heap.size)
  generalize hAe : va_A [(q_t, .inr (4, [.ref q_t_cells, .ref q_t_rowFactors, .ref q_t_columnFactors, .int t_size])), (q_t_cells, .inl (G.2 2, 49, .inr (.inr (.inr (.inl t_cells)))))] s.heap.size = A at hD ⊢
  have hA : ∀ q : Nat, s.heap.size ≤ q → A q := fun q h => by rw [← hAe]; exact Or.inr h
  have hl := lv_entry ([.ref q_t, .int a1]) (n := 5) (Nat.le_of_ble_eq_true rfl)
  rw [lg_entry_eq]
  refine k_X5_sumOfRow ⟨B.exec, B.bytes, hml, findClass_of_methodNamed B.named, atoms_spec (ws := wsX5_sumOfRow) B.pre⟩ G hK hA q_t q_t_cells q_t_rowFactors q_t_columnFactors _ _ _ _ h ?_ _ _ _ hP hD va_S.rf hl
  intro H locs ls pc hd hP hD hS
  exact W.dret B.exec B.bytes B.returns (fun t ht hW => ⟨⟨r, (), rfl, rfl, by rw [ht]; exact hP, hD⟩, hS.F ht⟩) hS.2.2 hd B.notSynchronized
set_option maxRecDepth 20000 in
theorem wd_X5_divide_1 : Cond.fieldLink RX5 21 "PermanentDesk$Scaling" "size" "I" ∈ wsX5_divide := List.mem_of_getElem? (i := 1) (by decide +kernel)
set_option maxRecDepth 20000 in
theorem wi_X5_divide_X5 : ∀ w ∈ u_ws RX5 TX5 4, w ∈ wsX5_divide := by decide +kernel
set_option maxRecDepth 20000 in
theorem wd_X5_divide_2 : Cond.fieldLink RX5 9 "PermanentDesk$Scaling" "cells" "[D" ∈ wsX5_divide := List.mem_of_getElem? (i := 2) (by decide +kernel)
def f_X5_divide (t_size : Int32) (t_cells : Nat → UInt64) (a1 : Int32) (a2 : Int32) (a3 : UInt64) : Option (Nat → UInt64) :=
  if (Op.cmpValue (FP.dcmp a3 FP.dconst0) .l) ≤ 0 then
    some t_cells
  else
    if a1 < 0 then
      some t_cells
    else
      if t_size ≤ a1 then
        some t_cells
      else
        if a2 < 0 then
          some t_cells
        else
          if t_size ≤ a2 then
            some t_cells
          else
            gd (okI ((a1 * (7 : Int32)) + a2) 49) (
            gd (okD (FP.ddiv (t_cells ((a1 * (7 : Int32)) + a2).toNatClampNeg) a3)) (
            gd (okI ((a1 * (7 : Int32)) + a2) 49) (
            pl ((vf_upd t_cells ((a1 * (7 : Int32)) + a2).toNatClampNeg (FP.ddiv (t_cells ((a1 * (7 : Int32)) + a2).toNatClampNeg) a3)) : Nat → UInt64) (fun t_cells_9 =>
            some t_cells_9))))
set_option maxHeartbeats 4000000 in
set_option maxRecDepth 100000 in
theorem k_X5_divide {p : Program} {l : Launch} {e : Env} {s : State} {m : MethodId} {args : Array Value} {below : List Frame} {meth : Method} {c : Code} {Q : State → Prop} {A0 : Nat → Prop} {H0 : Heap} (C : CallFix p m c cX5_divide 5 s args wsX5_divide RX5) (G : GT) (hK : gK G s) (hA : ∀ q : Nat, H0.size ≤ q → A0 q) (q_t q_t_cells q_t_rowFactors q_t_columnFactors : Nat) (t_size : Int32) (t_cells : Nat → UInt64) (a1 : Int32) (a2 : Int32) (a3 : UInt64) (o_t_cells : Nat → UInt64) (h : f_X5_divide t_size t_cells a1 a2 a3 = some o_t_cells) (KR : ∀ (H : Heap) (locs : List Loc) (ls : Array Slot) (pc : Nat), decode cX5_divide pc = .ok (.return_, 1) → va_P G.1 vwCl [(q_t, .inr (4, [.ref q_t_cells, .ref q_t_rowFactors, .ref q_t_columnFactors, .int t_size])), (q_t_cells, .inl (G.2 2, 49, .inr (.inr (.inr (.inl o_t_cells)))))] H → va_D A0 [(q_t, .inr (4, [.ref q_t_cells, .ref q_t_rowFactors, .ref q_t_columnFactors, .int t_size])), (q_t_cells, .inl (G.2 2, 49, .inr (.inr (.inr (.inl o_t_cells)))))] → va_S A0 H0 H locs → W p l e ({ frames := 0, cells := 0, slots := 0, locals := 0 } : Room) s m args below meth c H locs 0 0 Q (F0 m pc ls [])) : ∀ (H : Heap) (locs : List Loc) (ls : Array Slot), va_P G.1 vwCl [(q_t, .inr (4, [.ref q_t_cells, .ref q_t_rowFactors, .ref q_t_columnFactors, .int t_size])), (q_t_cells, .inl (G.2 2, 49, .inr (.inr (.inr (.inl t_cells)))))] H → va_D A0 [(q_t, .inr (4, [.ref q_t_cells, .ref q_t_rowFactors, .ref q_t_columnFactors, .int t_size])), (q_t_cells, .inl (G.2 2, 49, .inr (.inr (.inr (.inl t_cells)))))] → va_S A0 H0 H locs → lv_has ls 5 [(0, .ref q_t), (1, .int a1), (2, .int a2), (3, .double a3)] → W p l e ({ frames := 0, cells := 0, slots := 0, locals := 0 } : Room) s m args below meth c H locs 0 0 Q (F0 m 0 ls []) := by
  obtain ⟨hx, hb, hml, hown, hts⟩ := C
  intro H locs ls hP hD hS hl
  rw [f_X5_divide] at h
  refine lv_dload_n hx hb dX5_divide_0 rfl (lv_at hl 3 rfl) ?_
  refine lv_dconst0 hx hb dX5_divide_1 ?_
  refine lv_dcmp hx hb dX5_divide_2 ?_
  refine lv_if_le (tgt := 54) hx hb dX5_divide_3 (by decide) (fun c_1 => ?_) (fun c_1 => ?_)
  · replace h := it_t h c_1
    obtain rfl := sm1 h
    exact KR H locs ls 54 dX5_divide_54 hP hD hS
  · replace h := it_f h c_1
    refine lv_iload_n hx hb dX5_divide_6 rfl (lv_at hl 1 rfl) ?_
    refine lv_if_lt (tgt := 54) hx hb dX5_divide_7 (by decide) (fun c_2 => ?_) (fun c_2 => ?_)
    · replace h := it_t h c_2
      obtain rfl := sm1 h
      exact KR H locs ls 54 dX5_divide_54 hP hD hS
    · replace h := it_f h c_2
      refine lv_iload_n hx hb dX5_divide_10 rfl (lv_at hl 1 rfl) ?_
      refine lv_aload_n hx hb dX5_divide_11 rfl (lv_at hl 0 rfl) ?_
      refine va_get (D := G.1) (ci := 4) (v := .int t_size) (C := RX5) (T := TX5) (N := 4) hx hb hts wi_X5_divide_X5 hown hK hP 0 rfl rfl 3 (by decide) (hts _ wd_X5_divide_1) (fun _ h9 => h9) rfl dX5_divide_12 ?_
      refine lv_icmp_ge (tgt := 54) hx hb dX5_divide_15 (by decide) (fun c_3 => ?_) (fun c_3 => ?_)
      · replace h := it_t h c_3
        obtain rfl := sm1 h
        exact KR H locs ls 54 dX5_divide_54 hP hD hS
      · replace h := it_f h c_3
        refine lv_iload_n hx hb dX5_divide_18 rfl (lv_at hl 2 rfl) ?_
        refine lv_if_lt (tgt := 54) hx hb dX5_divide_19 (by decide) (fun c_4 => ?_) (fun c_4 => ?_)
        · replace h := it_t h c_4
          obtain rfl := sm1 h
          exact KR H locs ls 54 dX5_divide_54 hP hD hS
        · replace h := it_f h c_4
          refine lv_iload_n hx hb dX5_divide_22 rfl (lv_at hl 2 rfl) ?_
          refine lv_aload_n hx hb dX5_divide_23 rfl (lv_at hl 0 rfl) ?_
          refine va_get (D := G.1) (ci := 4) (v := .int t_size) (C := RX5) (T := TX5) (N := 4) hx hb hts wi_X5_divide_X5 hown hK hP 0 rfl rfl 3 (by decide) (hts _ wd_X5_divide_1) (fun _ h9 => h9) rfl dX5_divide_24 ?_
          refine lv_icmp_ge (tgt := 54) hx hb dX5_divide_27 (by decide) (fun c_5 => ?_) (fun c_5 => ?_)
          · replace h := it_t h c_5
            obtain rfl := sm1 h
            exact KR H locs ls 54 dX5_divide_54 hP hD hS
          · replace h := it_f h c_5
            refine lv_aload_n hx hb dX5_divide_30 rfl (lv_at hl 0 rfl) ?_
            refine va_get (D := G.1) (ci := 4) (v := .ref q_t_cells) (C := RX5) (T := TX5) (N := 4) hx hb hts wi_X5_divide_X5 hown hK hP 0 rfl rfl 0 (by decide) (hts _ wd_X5_divide_2) (fun _ h9 => h9) rfl dX5_divide_31 ?_
            refine lv_iload_n hx hb dX5_divide_34 rfl (lv_at hl 1 rfl) ?_
            refine lv_bipush (v := 7) hx hb dX5_divide_35 (by decide) ?_
            refine lv_imul hx hb dX5_divide_37 ?_
            refine lv_iload_n hx hb dX5_divide_38 rfl (lv_at hl 2 rfl) ?_
            refine lv_iadd hx hb dX5_divide_39 ?_
            refine lv_aload_n hx hb dX5_divide_40 rfl (lv_at hl 0 rfl) ?_
            refine va_get (D := G.1) (ci := 4) (v := .ref q_t_cells) (C := RX5) (T := TX5) (N := 4) hx hb hts wi_X5_divide_X5 hown hK hP 0 rfl rfl 0 (by decide) (hts _ wd_X5_divide_2) (fun _ h9 => h9) rfl dX5_divide_41 ?_
            refine lv_iload_n hx hb dX5_divide_44 rfl (lv_at hl 1 rfl) ?_
            refine lv_bipush (v := 7) hx hb dX5_divide_45 (by decide) ?_
            refine lv_imul hx hb dX5_divide_47 ?_
            refine lv_iload_n hx hb dX5_divide_48 rfl (lv_at hl 2 rfl) ?_
            refine lv_iadd hx hb dX5_divide_49 ?_
            obtain ⟨g_6, h⟩ := gd_ok h
            refine va_dald (D := G.1) hx hb hK hP 1 2 rfl rfl g_6 dX5_divide_50 ?_
            refine lv_dload_n hx hb dX5_divide_51 rfl (lv_at hl 3 rfl) ?_
            obtain ⟨g_7, h⟩ := gd_ok h
            refine lv_ddiv hx hb dX5_divide_52 g_7 ?_
            obtain ⟨g_8, h⟩ := gd_ok h
            obtain ⟨t_cells_9, et_cells_9, h⟩ := pl_ok h
            refine st_d (D := G.1) (wn := [(q_t, .inr (4, [.ref q_t_cells, .ref q_t_rowFactors, .ref q_t_columnFactors, .int t_size])), (q_t_cells, .inl (G.2 2, 49, .inr (.inr (.inr (.inl t_cells_9)))))]) hx hb hK hP hD hS 1 2 rfl rfl g_8 dX5_divide_53 et_cells_9 rfl (fun H locs hP hD hS => ?_)
            obtain rfl := sm1 h
            exact KR H locs ls 54 dX5_divide_54 hP hD hS
set_option maxHeartbeats 4000000 in
set_option maxRecDepth 100000 in
theorem c_X5_divide (l : Launch) (G : GT) (q_t q_t_cells q_t_rowFactors q_t_columnFactors : Nat) (sz : Nat) (t_size : Int32) (t_cells : Nat → UInt64) (a1 : Int32) (a2 : Int32) (a3 : UInt64) (o_t_cells : Nat → UInt64) (h : f_X5_divide t_size t_cells a1 a2 a3 = some o_t_cells) : Met l yX5_divide wsX5_divide ({ frames := 0, cells := 0, slots := 0, locals := 0 } : Room) (va_Pc [.ref q_t, .int a1, .int a2, .double a3] (pcW G [(q_t, .inr (4, [.ref q_t_cells, .ref q_t_rowFactors, .ref q_t_columnFactors, .int t_size])), (q_t_cells, .inl (G.2 2, 49, .inr (.inr (.inr (.inl t_cells)))))] sz)) (va_Qv (fun (_ : Unit) => True) (fun _ t => atW G (va_A [(q_t, .inr (4, [.ref q_t_cells, .ref q_t_rowFactors, .ref q_t_columnFactors, .int t_size])), (q_t_cells, .inl (G.2 2, 49, .inr (.inr (.inr (.inl t_cells)))))] sz) [(q_t, .inr (4, [.ref q_t_cells, .ref q_t_rowFactors, .ref q_t_columnFactors, .int t_size])), (q_t_cells, .inl (G.2 2, 49, .inr (.inr (.inr (.inl o_t_cells)))))] t) (va_A [(q_t, .inr (4, [.ref q_t_cells, .ref q_t_rowFactors, .ref q_t_columnFactors, .int t_size])), (q_t_cells, .inl (G.2 2, 49, .inr (.inr (.inr (.inl t_cells)))))] sz)) 0 0 (va_A [(q_t, .inr (4, [.ref q_t_cells, .ref q_t_rowFactors, .ref q_t_columnFactors, .int t_size])), (q_t_cells, .inl (G.2 2, 49, .inr (.inr (.inr (.inl t_cells)))))] sz) := by
  refine Met.ofW (cc := cX5_divide) (maxL := 5) (ret := none) (by decide) rfl ?_
  intro p e s m args below meth c s₁ B hml hv
  obtain ⟨rfl, hsz, hP, hK, hD0⟩ := hv
  subst hsz
  have hD := hD0.self (sz := s.heap.size)
  generalize hAe : va_A [(q_t, .inr (4, [.ref q_t_cells, .ref q_t_rowFactors, .ref q_t_columnFactors, .int t_size])), (q_t_cells, .inl (G.2 2, 49, .inr (.inr (.inr (.inl t_cells)))))] s.heap.size = A at hD ⊢
  have hA : ∀ q : Nat, s.heap.size ≤ q → A q := fun q h => by rw [← hAe]; exact Or.inr h
  have hl := lv_entry ([.ref q_t, .int a1, .int a2, .double a3]) (n := 5) (Nat.le_of_ble_eq_true rfl)
  rw [lg_entry_eq]
  refine k_X5_divide ⟨B.exec, B.bytes, hml, findClass_of_methodNamed B.named, atoms_spec (ws := wsX5_divide) B.pre⟩ G hK hA q_t q_t_cells q_t_rowFactors q_t_columnFactors _ _ _ _ _ _ h ?_ _ _ _ hP hD va_S.rf hl
  intro H locs ls pc hd hP hD hS
  exact W.vret B.exec B.bytes B.returns (fun t ht hW => ⟨⟨(), rfl, trivial, by rw [ht]; exact hP, hD⟩, hS.F ht⟩) hS.2.2 hd B.notSynchronized
set_option maxRecDepth 20000 in
theorem wd_X5_divideRow_1 : Cond.fieldLink RX5 21 "PermanentDesk$Scaling" "size" "I" ∈ wsX5_divideRow := List.mem_of_getElem? (i := 1) (by decide +kernel)
set_option maxRecDepth 20000 in
theorem wi_X5_divideRow_X5 : ∀ w ∈ u_ws RX5 TX5 4, w ∈ wsX5_divideRow := by decide +kernel
def f_X5_divideRow_L1 (x1 : Int32) (x2 : UInt64) (t_size : Int32) : (Int32 × (Nat → UInt64)) → Option ((Int32 × (Nat → UInt64)) ⊕ (Nat → UInt64))
  | (x4, t_cells) =>
    if t_size ≤ x4 then
      some (.inr t_cells)
    else
      (f_X5_divide t_size t_cells x1 x4 x2).bind (fun t_cells_2 =>
      pl ((x4 + (1 : Int32)) : Int32) (fun x4_4 =>
      some (.inl (x4_4, t_cells_2))))
def f_X5_divideRow (t_size : Int32) (t_cells : Nat → UInt64) (a1 : Int32) (a2 : UInt64) : Option (Nat → UInt64) :=
  (lpN (f_X5_divideRow_L1 a1 a2 t_size) FU ((0 : Int32), t_cells)).bind (fun t_cells_5 =>
  some t_cells_5)
set_option maxHeartbeats 4000000 in
set_option maxRecDepth 100000 in
theorem l_X5_divideRow_1 {p : Program} {l : Launch} {e : Env} {s : State} {m : MethodId} {args : Array Value} {below : List Frame} {meth : Method} {c : Code} {Q : State → Prop} {A0 : Nat → Prop} {H0 : Heap} (C : CallFix p m c cX5_divideRow 5 s args wsX5_divideRow RX5) (G : GT) (hK : gK G s) (hA : ∀ q : Nat, H0.size ≤ q → A0 q) (q_t q_t_cells q_t_rowFactors q_t_columnFactors : Nat) (x1 : Int32) (x2 : UInt64) (t_size : Int32) (E_t_cells : Nat → UInt64) (K : ∀ (H : Heap) (locs : List Loc) (ls : Array Slot), va_P G.1 vwCl [(q_t, .inr (4, [.ref q_t_cells, .ref q_t_rowFactors, .ref q_t_columnFactors, .int t_size])), (q_t_cells, .inl (G.2 2, 49, .inr (.inr (.inr (.inl E_t_cells)))))] H → va_D A0 [(q_t, .inr (4, [.ref q_t_cells, .ref q_t_rowFactors, .ref q_t_columnFactors, .int t_size])), (q_t_cells, .inl (G.2 2, 49, .inr (.inr (.inr (.inl E_t_cells)))))] → va_S A0 H0 H locs → lv_has ls 5 [] → W p l e ({ frames := 1, cells := 0, slots := 0, locals := 24 } : Room) s m args below meth c H locs 0 0 Q (F0 m 26 ls [])) : ∀ (n : Nat) (x4 : Int32) (t_cells : Nat → UInt64), lpN (f_X5_divideRow_L1 x1 x2 t_size) n (x4, t_cells) = some E_t_cells → ∀ (H : Heap) (locs : List Loc) (ls : Array Slot), va_P G.1 vwCl [(q_t, .inr (4, [.ref q_t_cells, .ref q_t_rowFactors, .ref q_t_columnFactors, .int t_size])), (q_t_cells, .inl (G.2 2, 49, .inr (.inr (.inr (.inl t_cells)))))] H → va_D A0 [(q_t, .inr (4, [.ref q_t_cells, .ref q_t_rowFactors, .ref q_t_columnFactors, .int t_size])), (q_t_cells, .inl (G.2 2, 49, .inr (.inr (.inr (.inl t_cells)))))] → va_S A0 H0 H locs → lv_has ls 5 [(0, .ref q_t), (1, .int x1), (2, .double x2), (4, .int x4)] → W p l e ({ frames := 1, cells := 0, slots := 0, locals := 24 } : Room) s m args below meth c H locs 0 0 Q (F0 m 3 ls []) := by
  obtain ⟨hx, hb, hml, hown, hts⟩ := C
  intro n
  induction n with
  | zero => intro x4 t_cells h; exact absurd h (fun h => lp_0 h)
  | succ n ih =>
    intro x4 t_cells h H locs ls hP hD hS hl
    obtain ⟨y, h, hk⟩ := lp_s h
    rw [f_X5_divideRow_L1] at h
    refine lv_iload hx hb dX5_divideRow_3 (lv_at hl 3 rfl) ?_
    refine lv_aload_n hx hb dX5_divideRow_5 rfl (lv_at hl 0 rfl) ?_
    refine va_get (D := G.1) (ci := 4) (v := .int t_size) (C := RX5) (T := TX5) (N := 4) hx hb hts wi_X5_divideRow_X5 hown hK hP 0 rfl rfl 3 (by decide) (hts _ wd_X5_divideRow_1) (fun _ h9 => h9) rfl dX5_divideRow_6 ?_
    refine lv_icmp_ge (tgt := 26) hx hb dX5_divideRow_9 (by decide) (fun c_1 => ?_) (fun c_1 => ?_)
    · replace h := it_t h c_1
      obtain rfl := sm1 h
      obtain rfl := sm1 hk
      exact K H locs ls hP hD hS (lv_sub hl [] rfl)
    · replace h := it_f h c_1
      refine lv_aload_n hx hb dX5_divideRow_12 rfl (lv_at hl 0 rfl) ?_
      refine lv_iload_n hx hb dX5_divideRow_13 rfl (lv_at hl 1 rfl) ?_
      refine lv_iload hx hb dX5_divideRow_14 (lv_at hl 3 rfl) ?_
      refine lv_dload_n hx hb dX5_divideRow_16 rfl (lv_at hl 2 rfl) ?_
      obtain ⟨t_cells_2, hf_3, h⟩ := bd_ok h
      refine ck_Vv (rest := []) (wn := [(q_t, .inr (4, [.ref q_t_cells, .ref q_t_rowFactors, .ref q_t_columnFactors, .int t_size])), (q_t_cells, .inl (G.2 2, 49, .inr (.inr (.inr (.inl t_cells_2)))))]) ⟨hx, hb, hml, hown, hts⟩ hK hP hD hS hA [0, 1] [] [0, 1] (c_X5_divide l G q_t q_t_cells q_t_rowFactors q_t_columnFactors _ t_size t_cells x1 x4 x2 _ hf_3) (cwV 3 hts gX5_divideRow_X5_divide rfl rfl rfl (by decide +kernel) ⟨Nat.le_of_ble_eq_true rfl, Nat.le_of_ble_eq_true rfl⟩) rfl rfl rfl rfl rfl rfl (by decide) rfl rfl rfl hl.1 rfl (Nat.le_of_ble_eq_true rfl) dX5_divideRow_17 ⟨Nat.zero_le _, Nat.zero_le _⟩ (fun H locs hP hD hS => ?_)
      obtain ⟨x4_4, ex4_4, h⟩ := pl_ok h
      refine lv_iinc (v := x4_4) (lv' := [(4, .int x4_4), (0, .ref q_t), (1, .int x1), (2, .double x2)]) hx hb dX5_divideRow_20 hl (k := 3) rfl (by rw [ex4_4]; rfl) (by decide) rfl (fun ls hl => ?_)
      refine lv_goto (tgt := 3) hx hb dX5_divideRow_23 (by decide) ?_
      obtain rfl := sm1 h
      exact ih x4_4 t_cells_2 hk H locs ls hP hD hS (lv_sub hl [1, 2, 3, 0] rfl)
set_option maxHeartbeats 4000000 in
set_option maxRecDepth 100000 in
theorem k_X5_divideRow {p : Program} {l : Launch} {e : Env} {s : State} {m : MethodId} {args : Array Value} {below : List Frame} {meth : Method} {c : Code} {Q : State → Prop} {A0 : Nat → Prop} {H0 : Heap} (C : CallFix p m c cX5_divideRow 5 s args wsX5_divideRow RX5) (G : GT) (hK : gK G s) (hA : ∀ q : Nat, H0.size ≤ q → A0 q) (q_t q_t_cells q_t_rowFactors q_t_columnFactors : Nat) (t_size : Int32) (t_cells : Nat → UInt64) (a1 : Int32) (a2 : UInt64) (o_t_cells : Nat → UInt64) (h : f_X5_divideRow t_size t_cells a1 a2 = some o_t_cells) (KR : ∀ (H : Heap) (locs : List Loc) (ls : Array Slot) (pc : Nat), decode cX5_divideRow pc = .ok (.return_, 1) → va_P G.1 vwCl [(q_t, .inr (4, [.ref q_t_cells, .ref q_t_rowFactors, .ref q_t_columnFactors, .int t_size])), (q_t_cells, .inl (G.2 2, 49, .inr (.inr (.inr (.inl o_t_cells)))))] H → va_D A0 [(q_t, .inr (4, [.ref q_t_cells, .ref q_t_rowFactors, .ref q_t_columnFactors, .int t_size])), (q_t_cells, .inl (G.2 2, 49, .inr (.inr (.inr (.inl o_t_cells)))))] → va_S A0 H0 H locs → W p l e ({ frames := 1, cells := 0, slots := 0, locals := 24 } : Room) s m args below meth c H locs 0 0 Q (F0 m pc ls [])) : ∀ (H : Heap) (locs : List Loc) (ls : Array Slot), va_P G.1 vwCl [(q_t, .inr (4, [.ref q_t_cells, .ref q_t_rowFactors, .ref q_t_columnFactors, .int t_size])), (q_t_cells, .inl (G.2 2, 49, .inr (.inr (.inr (.inl t_cells)))))] H → va_D A0 [(q_t, .inr (4, [.ref q_t_cells, .ref q_t_rowFactors, .ref q_t_columnFactors, .int t_size])), (q_t_cells, .inl (G.2 2, 49, .inr (.inr (.inr (.inl t_cells)))))] → va_S A0 H0 H locs → lv_has ls 5 [(0, .ref q_t), (1, .int a1), (2, .double a2)] → W p l e ({ frames := 1, cells := 0, slots := 0, locals := 24 } : Room) s m args below meth c H locs 0 0 Q (F0 m 0 ls []) := by
  obtain ⟨hx, hb, hml, hown, hts⟩ := C
  intro H locs ls hP hD hS hl
  rw [f_X5_divideRow] at h
  refine lv_iconst (v := 0) hx hb dX5_divideRow_0 (by decide) ?_
  refine lv_istore (lv' := [(4, .int (0 : Int32)), (0, .ref q_t), (1, .int a1), (2, .double a2)]) hx hb dX5_divideRow_1 hl (by decide) rfl (fun ls hl => ?_)
  obtain ⟨t_cells_5, hz_7, h⟩ := bd_ok h
  refine l_X5_divideRow_1 ⟨hx, hb, hml, hown, hts⟩ G hK hA q_t q_t_cells q_t_rowFactors q_t_columnFactors a1 a2 t_size t_cells_5 ?_ FU (0 : Int32) t_cells hz_7 H locs ls hP hD hS (lv_sub hl [1, 2, 3, 0] rfl)
  intro H locs ls hP hD hS hl
  obtain rfl := sm1 h
  exact KR H locs ls 26 dX5_divideRow_26 hP hD hS
set_option maxHeartbeats 4000000 in
set_option maxRecDepth 100000 in
theorem c_X5_divideRow (l : Launch) (G : GT) (q_t q_t_cells q_t_rowFactors q_t_columnFactors : Nat) (sz : Nat) (t_size : Int32) (t_cells : Nat → UInt64) (a1 : Int32) (a2 : UInt64) (o_t_cells : Nat → UInt64) (h : f_X5_divideRow t_size t_cells a1 a2 = some o_t_cells) : Met l yX5_divideRow wsX5_divideRow ({ frames := 1, cells := 0, slots := 0, locals := 24 } : Room) (va_Pc [.ref q_t, .int a1, .double a2] (pcW G [(q_t, .inr (4, [.ref q_t_cells, .ref q_t_rowFactors, .ref q_t_columnFactors, .int t_size])), (q_t_cells, .inl (G.2 2, 49, .inr (.inr (.inr (.inl t_cells)))))] sz)) (va_Qv (fun (_ : Unit) => True) (fun _ t => atW G (va_A [(q_t, .inr (4, [.ref q_t_cells, .ref q_t_rowFactors, .ref q_t_columnFactors, .int t_size])), (q_t_cells, .inl (G.2 2, 49, .inr (.inr (.inr (.inl t_cells)))))] sz) [(q_t, .inr (4, [.ref q_t_cells, .ref q_t_rowFactors, .ref q_t_columnFactors, .int t_size])), (q_t_cells, .inl (G.2 2, 49, .inr (.inr (.inr (.inl o_t_cells)))))] t) (va_A [(q_t, .inr (4, [.ref q_t_cells, .ref q_t_rowFactors, .ref q_t_columnFactors, .int t_size])), (q_t_cells, .inl (G.2 2, 49, .inr (.inr (.inr (.inl t_cells)))))] sz)) 0 0 (va_A [(q_t, .inr (4, [.ref q_t_cells, .ref q_t_rowFactors, .ref q_t_columnFactors, .int t_size])), (q_t_cells, .inl (G.2 2, 49, .inr (.inr (.inr (.inl t_cells)))))] sz) := by
  refine Met.ofW (cc := cX5_divideRow) (maxL := 5) (ret := none) (by decide) rfl ?_
  intro p e s m args below meth c s₁ B hml hv
  obtain ⟨rfl, hsz, hP, hK, hD0⟩ := hv
  subst hsz
  have hD := hD0.self (sz := s.heap.size)
  generalize hAe : va_A [(q_t, .inr (4, [.ref q_t_cells, .ref q_t_rowFactors, .ref q_t_columnFactors, .int t_size])), (q_t_cells, .inl (G.2 2, 49, .inr (.inr (.inr (.inl t_cells)))))] s.heap.size = A at hD ⊢
  have hA : ∀ q : Nat, s.heap.size ≤ q → A q := fun q h => by rw [← hAe]; exact Or.inr h
  have hl := lv_entry ([.ref q_t, .int a1, .double a2]) (n := 5) (Nat.le_of_ble_eq_true rfl)
  rw [lg_entry_eq]
  refine k_X5_divideRow ⟨B.exec, B.bytes, hml, findClass_of_methodNamed B.named, atoms_spec (ws := wsX5_divideRow) B.pre⟩ G hK hA q_t q_t_cells q_t_rowFactors q_t_columnFactors _ _ _ _ _ h ?_ _ _ _ hP hD va_S.rf hl
  intro H locs ls pc hd hP hD hS
  exact W.vret B.exec B.bytes B.returns (fun t ht hW => ⟨⟨(), rfl, trivial, by rw [ht]; exact hP, hD⟩, hS.F ht⟩) hS.2.2 hd B.notSynchronized
set_option maxRecDepth 20000 in
theorem wd_X5_sumOfColumn_1 : Cond.fieldLink RX5 21 "PermanentDesk$Scaling" "size" "I" ∈ wsX5_sumOfColumn := List.mem_of_getElem? (i := 1) (by decide +kernel)
set_option maxRecDepth 20000 in
theorem wi_X5_sumOfColumn_X5 : ∀ w ∈ u_ws RX5 TX5 4, w ∈ wsX5_sumOfColumn := by decide +kernel
def f_X5_sumOfColumn_L1 (x1 : Int32) (t_size : Int32) (t_cells : Nat → UInt64) : (UInt64 × Int32) → Option ((UInt64 × Int32) ⊕ UInt64)
  | (x2, x4) =>
    if t_size ≤ x4 then
      some (.inr x2)
    else
      (f_X5_at t_size t_cells x4 x1).bind (fun r_2 =>
      gd (okD (FP.dadd x2 r_2)) (
      pl ((FP.dadd x2 r_2) : UInt64) (fun x2_5 =>
      pl ((x4 + (1 : Int32)) : Int32) (fun x4_6 =>
      some (.inl (x2_5, x4_6))))))
def f_X5_sumOfColumn (t_size : Int32) (t_cells : Nat → UInt64) (a1 : Int32) : Option UInt64 :=
  (lpN (f_X5_sumOfColumn_L1 a1 t_size t_cells) FU (FP.dconst0, (0 : Int32))).bind (fun x2_7 =>
  some x2_7)
set_option maxHeartbeats 4000000 in
set_option maxRecDepth 100000 in
theorem l_X5_sumOfColumn_1 {p : Program} {l : Launch} {e : Env} {s : State} {m : MethodId} {args : Array Value} {below : List Frame} {meth : Method} {c : Code} {Q : State → Prop} {A0 : Nat → Prop} {H0 : Heap} (C : CallFix p m c cX5_sumOfColumn 5 s args wsX5_sumOfColumn RX5) (G : GT) (hK : gK G s) (hA : ∀ q : Nat, H0.size ≤ q → A0 q) (q_t q_t_cells q_t_rowFactors q_t_columnFactors : Nat) (x1 : Int32) (t_size : Int32) (t_cells : Nat → UInt64) (E_x2 : UInt64) (K : ∀ (H : Heap) (locs : List Loc) (ls : Array Slot), va_P G.1 vwCl [(q_t, .inr (4, [.ref q_t_cells, .ref q_t_rowFactors, .ref q_t_columnFactors, .int t_size])), (q_t_cells, .inl (G.2 2, 49, .inr (.inr (.inr (.inl t_cells)))))] H → va_D A0 [(q_t, .inr (4, [.ref q_t_cells, .ref q_t_rowFactors, .ref q_t_columnFactors, .int t_size])), (q_t_cells, .inl (G.2 2, 49, .inr (.inr (.inr (.inl t_cells)))))] → va_S A0 H0 H locs → lv_has ls 5 [(2, .double E_x2)] → W p l e ({ frames := 1, cells := 0, slots := 0, locals := 23 } : Room) s m args below meth c H locs 0 0 Q (F0 m 30 ls [])) : ∀ (n : Nat) (x2 : UInt64) (x4 : Int32), lpN (f_X5_sumOfColumn_L1 x1 t_size t_cells) n (x2, x4) = some E_x2 → ∀ (H : Heap) (locs : List Loc) (ls : Array Slot), va_P G.1 vwCl [(q_t, .inr (4, [.ref q_t_cells, .ref q_t_rowFactors, .ref q_t_columnFactors, .int t_size])), (q_t_cells, .inl (G.2 2, 49, .inr (.inr (.inr (.inl t_cells)))))] H → va_D A0 [(q_t, .inr (4, [.ref q_t_cells, .ref q_t_rowFactors, .ref q_t_columnFactors, .int t_size])), (q_t_cells, .inl (G.2 2, 49, .inr (.inr (.inr (.inl t_cells)))))] → va_S A0 H0 H locs → lv_has ls 5 [(0, .ref q_t), (1, .int x1), (2, .double x2), (4, .int x4)] → W p l e ({ frames := 1, cells := 0, slots := 0, locals := 23 } : Room) s m args below meth c H locs 0 0 Q (F0 m 5 ls []) := by
  obtain ⟨hx, hb, hml, hown, hts⟩ := C
  intro n
  induction n with
  | zero => intro x2 x4 h; exact absurd h (fun h => lp_0 h)
  | succ n ih =>
    intro x2 x4 h H locs ls hP hD hS hl
    obtain ⟨y, h, hk⟩ := lp_s h
    rw [f_X5_sumOfColumn_L1] at h
    refine lv_iload hx hb dX5_sumOfColumn_5 (lv_at hl 3 rfl) ?_
    refine lv_aload_n hx hb dX5_sumOfColumn_7 rfl (lv_at hl 0 rfl) ?_
    refine va_get (D := G.1) (ci := 4) (v := .int t_size) (C := RX5) (T := TX5) (N := 4) hx hb hts wi_X5_sumOfColumn_X5 hown hK hP 0 rfl rfl 3 (by decide) (hts _ wd_X5_sumOfColumn_1) (fun _ h9 => h9) rfl dX5_sumOfColumn_8 ?_
    refine lv_icmp_ge (tgt := 30) hx hb dX5_sumOfColumn_11 (by decide) (fun c_1 => ?_) (fun c_1 => ?_)
    · replace h := it_t h c_1
      obtain rfl := sm1 h
      obtain rfl := sm1 hk
      exact K H locs ls hP hD hS (lv_sub hl [2] rfl)
    · replace h := it_f h c_1
      refine lv_dload_n hx hb dX5_sumOfColumn_14 rfl (lv_at hl 2 rfl) ?_
      refine lv_aload_n hx hb dX5_sumOfColumn_15 rfl (lv_at hl 0 rfl) ?_
      refine lv_iload hx hb dX5_sumOfColumn_16 (lv_at hl 3 rfl) ?_
      refine lv_iload_n hx hb dX5_sumOfColumn_18 rfl (lv_at hl 1 rfl) ?_
      obtain ⟨r_2, hf_3, h⟩ := bd_ok h
      refine ck_Vd (rest := [.double x2]) (wn := [(q_t, .inr (4, [.ref q_t_cells, .ref q_t_rowFactors, .ref q_t_columnFactors, .int t_size])), (q_t_cells, .inl (G.2 2, 49, .inr (.inr (.inr (.inl t_cells)))))]) ⟨hx, hb, hml, hown, hts⟩ hK hP hD hS hA [0, 1] [] [0, 1] (c_X5_at l G q_t q_t_cells q_t_rowFactors q_t_columnFactors _ t_size t_cells x4 x1 _ hf_3) (cwV 2 hts gX5_sumOfColumn_X5_at rfl rfl rfl (by decide +kernel) ⟨Nat.le_of_ble_eq_true rfl, Nat.le_of_ble_eq_true rfl⟩) rfl rfl rfl rfl rfl rfl (by decide) rfl rfl rfl hl.1 rfl (Nat.le_of_ble_eq_true rfl) dX5_sumOfColumn_19 ⟨Nat.zero_le _, Nat.zero_le _⟩ (fun H locs hP hD hS => ?_)
      obtain ⟨g_4, h⟩ := gd_ok h
      refine lv_dadd hx hb dX5_sumOfColumn_22 g_4 ?_
      refine lv_topd (fun x2_5 ex2_5 => ?_)
      replace h := pl_v h ex2_5
      refine lv_dstore_n (lv' := [(2, .double x2_5), (0, .ref q_t), (1, .int x1), (4, .int x4)]) hx hb dX5_sumOfColumn_23 rfl hl (by decide) rfl (fun ls hl => ?_)
      obtain ⟨x4_6, ex4_6, h⟩ := pl_ok h
      refine lv_iinc (v := x4_6) (lv' := [(4, .int x4_6), (2, .double x2_5), (0, .ref q_t), (1, .int x1)]) hx hb dX5_sumOfColumn_24 hl (k := 3) rfl (by rw [ex4_6]; rfl) (by decide) rfl (fun ls hl => ?_)
      refine lv_goto (tgt := 5) hx hb dX5_sumOfColumn_27 (by decide) ?_
      obtain rfl := sm1 h
      exact ih x2_5 x4_6 hk H locs ls hP hD hS (lv_sub hl [2, 3, 1, 0] rfl)
set_option maxHeartbeats 4000000 in
set_option maxRecDepth 100000 in
theorem k_X5_sumOfColumn {p : Program} {l : Launch} {e : Env} {s : State} {m : MethodId} {args : Array Value} {below : List Frame} {meth : Method} {c : Code} {Q : State → Prop} {A0 : Nat → Prop} {H0 : Heap} (C : CallFix p m c cX5_sumOfColumn 5 s args wsX5_sumOfColumn RX5) (G : GT) (hK : gK G s) (hA : ∀ q : Nat, H0.size ≤ q → A0 q) (q_t q_t_cells q_t_rowFactors q_t_columnFactors : Nat) (t_size : Int32) (t_cells : Nat → UInt64) (a1 : Int32) (r : UInt64) (h : f_X5_sumOfColumn t_size t_cells a1 = some r) (KR : ∀ (H : Heap) (locs : List Loc) (ls : Array Slot) (pc : Nat), decode cX5_sumOfColumn pc = .ok (.dreturn, 1) → va_P G.1 vwCl [(q_t, .inr (4, [.ref q_t_cells, .ref q_t_rowFactors, .ref q_t_columnFactors, .int t_size])), (q_t_cells, .inl (G.2 2, 49, .inr (.inr (.inr (.inl t_cells)))))] H → va_D A0 [(q_t, .inr (4, [.ref q_t_cells, .ref q_t_rowFactors, .ref q_t_columnFactors, .int t_size])), (q_t_cells, .inl (G.2 2, 49, .inr (.inr (.inr (.inl t_cells)))))] → va_S A0 H0 H locs → W p l e ({ frames := 1, cells := 0, slots := 0, locals := 23 } : Room) s m args below meth c H locs 0 0 Q (F0 m pc ls [.double r])) : ∀ (H : Heap) (locs : List Loc) (ls : Array Slot), va_P G.1 vwCl [(q_t, .inr (4, [.ref q_t_cells, .ref q_t_rowFactors, .ref q_t_columnFactors, .int t_size])), (q_t_cells, .inl (G.2 2, 49, .inr (.inr (.inr (.inl t_cells)))))] H → va_D A0 [(q_t, .inr (4, [.ref q_t_cells, .ref q_t_rowFactors, .ref q_t_columnFactors, .int t_size])), (q_t_cells, .inl (G.2 2, 49, .inr (.inr (.inr (.inl t_cells)))))] → va_S A0 H0 H locs → lv_has ls 5 [(0, .ref q_t), (1, .int a1)] → W p l e ({ frames := 1, cells := 0, slots := 0, locals := 23 } : Room) s m args below meth c H locs 0 0 Q (F0 m 0 ls []) := by
  obtain ⟨hx, hb, hml, hown, hts⟩ := C
  intro H locs ls hP hD hS hl
  rw [f_X5_sumOfColumn] at h
  refine lv_dconst0 hx hb dX5_sumOfColumn_0 ?_
  refine lv_dstore_n (lv' := [(2, .double FP.dconst0), (0, .ref q_t), (1, .int a1)]) hx hb dX5_sumOfColumn_1 rfl hl (by decide) rfl (fun ls hl => ?_)
  refine lv_iconst (v := 0) hx hb dX5_sumOfColumn_2 (by decide) ?_
  refine lv_istore (lv' := [(4, .int (0 : Int32)), (2, .double FP.dconst0), (0, .ref q_t), (1, .int a1)]) hx hb dX5_sumOfColumn_3 hl (by decide) rfl (fun ls hl => ?_)
  obtain ⟨x2_7, hz_9, h⟩ := bd_ok h
  refine l_X5_sumOfColumn_1 ⟨hx, hb, hml, hown, hts⟩ G hK hA q_t q_t_cells q_t_rowFactors q_t_columnFactors a1 t_size t_cells x2_7 ?_ FU FP.dconst0 (0 : Int32) hz_9 H locs ls hP hD hS (lv_sub hl [2, 3, 1, 0] rfl)
  intro H locs ls hP hD hS hl
  refine lv_dload_n hx hb dX5_sumOfColumn_30 rfl (lv_at hl 0 rfl) ?_
  obtain rfl := sm1 h
  exact KR H locs ls 31 dX5_sumOfColumn_31 hP hD hS
set_option maxHeartbeats 4000000 in
set_option maxRecDepth 100000 in
theorem c_X5_sumOfColumn (l : Launch) (G : GT) (q_t q_t_cells q_t_rowFactors q_t_columnFactors : Nat) (sz : Nat) (t_size : Int32) (t_cells : Nat → UInt64) (a1 : Int32) (r : UInt64) (h : f_X5_sumOfColumn t_size t_cells a1 = some r) : Met l yX5_sumOfColumn wsX5_sumOfColumn ({ frames := 1, cells := 0, slots := 0, locals := 23 } : Room) (va_Pc [.ref q_t, .int a1] (pcW G [(q_t, .inr (4, [.ref q_t_cells, .ref q_t_rowFactors, .ref q_t_columnFactors, .int t_size])), (q_t_cells, .inl (G.2 2, 49, .inr (.inr (.inr (.inl t_cells)))))] sz)) (va_Qd (fun r9 (_ : Unit) => r9 = r) (fun _ t => atW G (va_A [(q_t, .inr (4, [.ref q_t_cells, .ref q_t_rowFactors, .ref q_t_columnFactors, .int t_size])), (q_t_cells, .inl (G.2 2, 49, .inr (.inr (.inr (.inl t_cells)))))] sz) [(q_t, .inr (4, [.ref q_t_cells, .ref q_t_rowFactors, .ref q_t_columnFactors, .int t_size])), (q_t_cells, .inl (G.2 2, 49, .inr (.inr (.inr (.inl t_cells)))))] t) (va_A [(q_t, .inr (4, [.ref q_t_cells, .ref q_t_rowFactors, .ref q_t_columnFactors, .int t_size])), (q_t_cells, .inl (G.2 2, 49, .inr (.inr (.inr (.inl t_cells)))))] sz)) 0 0 (va_A [(q_t, .inr (4, [.ref q_t_cells, .ref q_t_rowFactors, .ref q_t_columnFactors, .int t_size])), (q_t_cells, .inl (G.2 2, 49, .inr (.inr (.inr (.inl t_cells)))))] sz) := by
  refine Met.ofW (cc := cX5_sumOfColumn) (maxL := 5) (ret := (some .double)) (by decide) rfl ?_
  intro p e s m args below meth c s₁ B hml hv
  obtain ⟨rfl, hsz, hP, hK, hD0⟩ := hv
  subst hsz
  have hD := hD0.self (sz := s.heap.size)
  generalize hAe : va_A [(q_t, .inr (4, [.ref q_t_cells, .ref q_t_rowFactors, .ref q_t_columnFactors, .int t_size])), (q_t_cells, .inl (G.2 2, 49, .inr (.inr (.inr (.inl t_cells)))))] s.heap.size = A at hD ⊢
  have hA : ∀ q : Nat, s.heap.size ≤ q → A q := fun q h => by rw [← hAe]; exact Or.inr h
  have hl := lv_entry ([.ref q_t, .int a1]) (n := 5) (Nat.le_of_ble_eq_true rfl)
  rw [lg_entry_eq]
  refine k_X5_sumOfColumn ⟨B.exec, B.bytes, hml, findClass_of_methodNamed B.named, atoms_spec (ws := wsX5_sumOfColumn) B.pre⟩ G hK hA q_t q_t_cells q_t_rowFactors q_t_columnFactors _ _ _ _ h ?_ _ _ _ hP hD va_S.rf hl
  intro H locs ls pc hd hP hD hS
  exact W.dret B.exec B.bytes B.returns (fun t ht hW => ⟨⟨r, (), rfl, rfl, by rw [ht]; exact hP, hD⟩, hS.F ht⟩) hS.2.2 hd B.notSynchronized
set_option maxRecDepth 20000 in
theorem wd_X5_divideColumn_1 : Cond.fieldLink RX5 21 "PermanentDesk$Scaling" "size" "I" ∈ wsX5_divideColumn := List.mem_of_getElem? (i := 1) (by decide +kernel)
set_option maxRecDepth 20000 in
theorem wi_X5_divideColumn_X5 : ∀ w ∈ u_ws RX5 TX5 4, w ∈ wsX5_divideColumn := by decide +kernel
def f_X5_divideColumn_L1 (x1 : Int32) (x2 : UInt64) (t_size : Int32) : (Int32 × (Nat → UInt64)) → Option ((Int32 × (Nat → UInt64)) ⊕ (Nat → UInt64))
  | (x4, t_cells) =>
    if t_size ≤ x4 then
      some (.inr t_cells)
    else
      (f_X5_divide t_size t_cells x4 x1 x2).bind (fun t_cells_2 =>
      pl ((x4 + (1 : Int32)) : Int32) (fun x4_4 =>
      some (.inl (x4_4, t_cells_2))))
def f_X5_divideColumn (t_size : Int32) (t_cells : Nat → UInt64) (a1 : Int32) (a2 : UInt64) : Option (Nat → UInt64) :=
  (lpN (f_X5_divideColumn_L1 a1 a2 t_size) FU ((0 : Int32), t_cells)).bind (fun t_cells_5 =>
  some t_cells_5)
set_option maxHeartbeats 4000000 in
set_option maxRecDepth 100000 in
theorem l_X5_divideColumn_1 {p : Program} {l : Launch} {e : Env} {s : State} {m : MethodId} {args : Array Value} {below : List Frame} {meth : Method} {c : Code} {Q : State → Prop} {A0 : Nat → Prop} {H0 : Heap} (C : CallFix p m c cX5_divideColumn 5 s args wsX5_divideColumn RX5) (G : GT) (hK : gK G s) (hA : ∀ q : Nat, H0.size ≤ q → A0 q) (q_t q_t_cells q_t_rowFactors q_t_columnFactors : Nat) (x1 : Int32) (x2 : UInt64) (t_size : Int32) (E_t_cells : Nat → UInt64) (K : ∀ (H : Heap) (locs : List Loc) (ls : Array Slot), va_P G.1 vwCl [(q_t, .inr (4, [.ref q_t_cells, .ref q_t_rowFactors, .ref q_t_columnFactors, .int t_size])), (q_t_cells, .inl (G.2 2, 49, .inr (.inr (.inr (.inl E_t_cells)))))] H → va_D A0 [(q_t, .inr (4, [.ref q_t_cells, .ref q_t_rowFactors, .ref q_t_columnFactors, .int t_size])), (q_t_cells, .inl (G.2 2, 49, .inr (.inr (.inr (.inl E_t_cells)))))] → va_S A0 H0 H locs → lv_has ls 5 [] → W p l e ({ frames := 1, cells := 0, slots := 0, locals := 24 } : Room) s m args below meth c H locs 0 0 Q (F0 m 26 ls [])) : ∀ (n : Nat) (x4 : Int32) (t_cells : Nat → UInt64), lpN (f_X5_divideColumn_L1 x1 x2 t_size) n (x4, t_cells) = some E_t_cells → ∀ (H : Heap) (locs : List Loc) (ls : Array Slot), va_P G.1 vwCl [(q_t, .inr (4, [.ref q_t_cells, .ref q_t_rowFactors, .ref q_t_columnFactors, .int t_size])), (q_t_cells, .inl (G.2 2, 49, .inr (.inr (.inr (.inl t_cells)))))] H → va_D A0 [(q_t, .inr (4, [.ref q_t_cells, .ref q_t_rowFactors, .ref q_t_columnFactors, .int t_size])), (q_t_cells, .inl (G.2 2, 49, .inr (.inr (.inr (.inl t_cells)))))] → va_S A0 H0 H locs → lv_has ls 5 [(0, .ref q_t), (1, .int x1), (2, .double x2), (4, .int x4)] → W p l e ({ frames := 1, cells := 0, slots := 0, locals := 24 } : Room) s m args below meth c H locs 0 0 Q (F0 m 3 ls []) := by
  obtain ⟨hx, hb, hml, hown, hts⟩ := C
  intro n
  induction n with
  | zero => intro x4 t_cells h; exact absurd h (fun h => lp_0 h)
  | succ n ih =>
    intro x4 t_cells h H locs ls hP hD hS hl
    obtain ⟨y, h, hk⟩ := lp_s h
    rw [f_X5_divideColumn_L1] at h
    refine lv_iload hx hb dX5_divideColumn_3 (lv_at hl 3 rfl) ?_
    refine lv_aload_n hx hb dX5_divideColumn_5 rfl (lv_at hl 0 rfl) ?_
    refine va_get (D := G.1) (ci := 4) (v := .int t_size) (C := RX5) (T := TX5) (N := 4) hx hb hts wi_X5_divideColumn_X5 hown hK hP 0 rfl rfl 3 (by decide) (hts _ wd_X5_divideColumn_1) (fun _ h9 => h9) rfl dX5_divideColumn_6 ?_
    refine lv_icmp_ge (tgt := 26) hx hb dX5_divideColumn_9 (by decide) (fun c_1 => ?_) (fun c_1 => ?_)
    · replace h := it_t h c_1
      obtain rfl := sm1 h
      obtain rfl := sm1 hk
      exact K H locs ls hP hD hS (lv_sub hl [] rfl)
    · replace h := it_f h c_1
      refine lv_aload_n hx hb dX5_divideColumn_12 rfl (lv_at hl 0 rfl) ?_
      refine lv_iload hx hb dX5_divideColumn_13 (lv_at hl 3 rfl) ?_
      refine lv_iload_n hx hb dX5_divideColumn_15 rfl (lv_at hl 1 rfl) ?_
      refine lv_dload_n hx hb dX5_divideColumn_16 rfl (lv_at hl 2 rfl) ?_
      obtain ⟨t_cells_2, hf_3, h⟩ := bd_ok h
      refine ck_Vv (rest := []) (wn := [(q_t, .inr (4, [.ref q_t_cells, .ref q_t_rowFactors, .ref q_t_columnFactors, .int t_size])), (q_t_cells, .inl (G.2 2, 49, .inr (.inr (.inr (.inl t_cells_2)))))]) ⟨hx, hb, hml, hown, hts⟩ hK hP hD hS hA [0, 1] [] [0, 1] (c_X5_divide l G q_t q_t_cells q_t_rowFactors q_t_columnFactors _ t_size t_cells x4 x1 x2 _ hf_3) (cwV 3 hts gX5_divideColumn_X5_divide rfl rfl rfl (by decide +kernel) ⟨Nat.le_of_ble_eq_true rfl, Nat.le_of_ble_eq_true rfl⟩) rfl rfl rfl rfl rfl rfl (by decide) rfl rfl rfl hl.1 rfl (Nat.le_of_ble_eq_true rfl) dX5_divideColumn_17 ⟨Nat.zero_le _, Nat.zero_le _⟩ (fun H locs hP hD hS => ?_)
      obtain ⟨x4_4, ex4_4, h⟩ := pl_ok h
      refine lv_iinc (v := x4_4) (lv' := [(4, .int x4_4), (0, .ref q_t), (1, .int x1), (2, .double x2)]) hx hb dX5_divideColumn_20 hl (k := 3) rfl (by rw [ex4_4]; rfl) (by decide) rfl (fun ls hl => ?_)
      refine lv_goto (tgt := 3) hx hb dX5_divideColumn_23 (by decide) ?_
      obtain rfl := sm1 h
      exact ih x4_4 t_cells_2 hk H locs ls hP hD hS (lv_sub hl [1, 2, 3, 0] rfl)
set_option maxHeartbeats 4000000 in
set_option maxRecDepth 100000 in
theorem k_X5_divideColumn {p : Program} {l : Launch} {e : Env} {s : State} {m : MethodId} {args : Array Value} {below : List Frame} {meth : Method} {c : Code} {Q : State → Prop} {A0 : Nat → Prop} {H0 : Heap} (C : CallFix p m c cX5_divideColumn 5 s args wsX5_divideColumn RX5) (G : GT) (hK : gK G s) (hA : ∀ q : Nat, H0.size ≤ q → A0 q) (q_t q_t_cells q_t_rowFactors q_t_columnFactors : Nat) (t_size : Int32) (t_cells : Nat → UInt64) (a1 : Int32) (a2 : UInt64) (o_t_cells : Nat → UInt64) (h : f_X5_divideColumn t_size t_cells a1 a2 = some o_t_cells) (KR : ∀ (H : Heap) (locs : List Loc) (ls : Array Slot) (pc : Nat), decode cX5_divideColumn pc = .ok (.return_, 1) → va_P G.1 vwCl [(q_t, .inr (4, [.ref q_t_cells, .ref q_t_rowFactors, .ref q_t_columnFactors, .int t_size])), (q_t_cells, .inl (G.2 2, 49, .inr (.inr (.inr (.inl o_t_cells)))))] H → va_D A0 [(q_t, .inr (4, [.ref q_t_cells, .ref q_t_rowFactors, .ref q_t_columnFactors, .int t_size])), (q_t_cells, .inl (G.2 2, 49, .inr (.inr (.inr (.inl o_t_cells)))))] → va_S A0 H0 H locs → W p l e ({ frames := 1, cells := 0, slots := 0, locals := 24 } : Room) s m args below meth c H locs 0 0 Q (F0 m pc ls [])) : ∀ (H : Heap) (locs : List Loc) (ls : Array Slot), va_P G.1 vwCl [(q_t, .inr (4, [.ref q_t_cells, .ref q_t_rowFactors, .ref q_t_columnFactors, .int t_size])), (q_t_cells, .inl (G.2 2, 49, .inr (.inr (.inr (.inl t_cells)))))] H → va_D A0 [(q_t, .inr (4, [.ref q_t_cells, .ref q_t_rowFactors, .ref q_t_columnFactors, .int t_size])), (q_t_cells, .inl (G.2 2, 49, .inr (.inr (.inr (.inl t_cells)))))] → va_S A0 H0 H locs → lv_has ls 5 [(0, .ref q_t), (1, .int a1), (2, .double a2)] → W p l e ({ frames := 1, cells := 0, slots := 0, locals := 24 } : Room) s m args below meth c H locs 0 0 Q (F0 m 0 ls []) := by
  obtain ⟨hx, hb, hml, hown, hts⟩ := C
  intro H locs ls hP hD hS hl
  rw [f_X5_divideColumn] at h
  refine lv_iconst (v := 0) hx hb dX5_divideColumn_0 (by decide) ?_
  refine lv_istore (lv' := [(4, .int (0 : Int32)), (0, .ref q_t), (1, .int a1), (2, .double a2)]) hx hb dX5_divideColumn_1 hl (by decide) rfl (fun ls hl => ?_)
  obtain ⟨t_cells_5, hz_7, h⟩ := bd_ok h
  refine l_X5_divideColumn_1 ⟨hx, hb, hml, hown, hts⟩ G hK hA q_t q_t_cells q_t_rowFactors q_t_columnFactors a1 a2 t_size t_cells_5 ?_ FU (0 : Int32) t_cells hz_7 H locs ls hP hD hS (lv_sub hl [1, 2, 3, 0] rfl)
  intro H locs ls hP hD hS hl
  obtain rfl := sm1 h
  exact KR H locs ls 26 dX5_divideColumn_26 hP hD hS
set_option maxHeartbeats 4000000 in
set_option maxRecDepth 100000 in
theorem c_X5_divideColumn (l : Launch) (G : GT) (q_t q_t_cells q_t_rowFactors q_t_columnFactors : Nat) (sz : Nat) (t_size : Int32) (t_cells : Nat → UInt64) (a1 : Int32) (a2 : UInt64) (o_t_cells : Nat → UInt64) (h : f_X5_divideColumn t_size t_cells a1 a2 = some o_t_cells) : Met l yX5_divideColumn wsX5_divideColumn ({ frames := 1, cells := 0, slots := 0, locals := 24 } : Room) (va_Pc [.ref q_t, .int a1, .double a2] (pcW G [(q_t, .inr (4, [.ref q_t_cells, .ref q_t_rowFactors, .ref q_t_columnFactors, .int t_size])), (q_t_cells, .inl (G.2 2, 49, .inr (.inr (.inr (.inl t_cells)))))] sz)) (va_Qv (fun (_ : Unit) => True) (fun _ t => atW G (va_A [(q_t, .inr (4, [.ref q_t_cells, .ref q_t_rowFactors, .ref q_t_columnFactors, .int t_size])), (q_t_cells, .inl (G.2 2, 49, .inr (.inr (.inr (.inl t_cells)))))] sz) [(q_t, .inr (4, [.ref q_t_cells, .ref q_t_rowFactors, .ref q_t_columnFactors, .int t_size])), (q_t_cells, .inl (G.2 2, 49, .inr (.inr (.inr (.inl o_t_cells)))))] t) (va_A [(q_t, .inr (4, [.ref q_t_cells, .ref q_t_rowFactors, .ref q_t_columnFactors, .int t_size])), (q_t_cells, .inl (G.2 2, 49, .inr (.inr (.inr (.inl t_cells)))))] sz)) 0 0 (va_A [(q_t, .inr (4, [.ref q_t_cells, .ref q_t_rowFactors, .ref q_t_columnFactors, .int t_size])), (q_t_cells, .inl (G.2 2, 49, .inr (.inr (.inr (.inl t_cells)))))] sz) := by
  refine Met.ofW (cc := cX5_divideColumn) (maxL := 5) (ret := none) (by decide) rfl ?_
  intro p e s m args below meth c s₁ B hml hv
  obtain ⟨rfl, hsz, hP, hK, hD0⟩ := hv
  subst hsz
  have hD := hD0.self (sz := s.heap.size)
  generalize hAe : va_A [(q_t, .inr (4, [.ref q_t_cells, .ref q_t_rowFactors, .ref q_t_columnFactors, .int t_size])), (q_t_cells, .inl (G.2 2, 49, .inr (.inr (.inr (.inl t_cells)))))] s.heap.size = A at hD ⊢
  have hA : ∀ q : Nat, s.heap.size ≤ q → A q := fun q h => by rw [← hAe]; exact Or.inr h
  have hl := lv_entry ([.ref q_t, .int a1, .double a2]) (n := 5) (Nat.le_of_ble_eq_true rfl)
  rw [lg_entry_eq]
  refine k_X5_divideColumn ⟨B.exec, B.bytes, hml, findClass_of_methodNamed B.named, atoms_spec (ws := wsX5_divideColumn) B.pre⟩ G hK hA q_t q_t_cells q_t_rowFactors q_t_columnFactors _ _ _ _ _ h ?_ _ _ _ hP hD va_S.rf hl
  intro H locs ls pc hd hP hD hS
  exact W.vret B.exec B.bytes B.returns (fun t ht hW => ⟨⟨(), rfl, trivial, by rw [ht]; exact hP, hD⟩, hS.F ht⟩) hS.2.2 hd B.notSynchronized
set_option maxRecDepth 20000 in
theorem wd_X5_sweep_1 : Cond.fieldLink RX5 21 "PermanentDesk$Scaling" "size" "I" ∈ wsX5_sweep := List.mem_of_getElem? (i := 1) (by decide +kernel)
set_option maxRecDepth 20000 in
theorem wi_X5_sweep_X5 : ∀ w ∈ u_ws RX5 TX5 4, w ∈ wsX5_sweep := by decide +kernel
set_option maxRecDepth 20000 in
theorem wd_X5_sweep_2 : Cond.fieldLink RX5 15 "PermanentDesk$Scaling" "rowFactors" "[D" ∈ wsX5_sweep := List.mem_of_getElem? (i := 2) (by decide +kernel)
set_option maxRecDepth 20000 in
theorem wd_X5_sweep_3 : Cond.fieldLink RX5 18 "PermanentDesk$Scaling" "columnFactors" "[D" ∈ wsX5_sweep := List.mem_of_getElem? (i := 3) (by decide +kernel)
def f_X5_sweep_L1 (t_size : Int32) : (Int32 × (Nat → UInt64) × (Nat → UInt64)) → Option ((Int32 × (Nat → UInt64) × (Nat → UInt64)) ⊕ ((Nat → UInt64) × (Nat → UInt64)))
  | (x1, t_cells, t_rowFactors) =>
    if t_size ≤ x1 then
      some (.inr (t_cells, t_rowFactors))
    else
      (f_X5_sumOfRow t_size t_cells x1).bind (fun r_2 =>
      (f_X5_divideRow t_size t_cells x1 r_2).bind (fun t_cells_4 =>
      gd (okI x1 7) (
      gd (okD (FP.dmul (t_rowFactors x1.toNatClampNeg) r_2)) (
      gd (okI x1 7) (
      pl ((vf_upd t_rowFactors x1.toNatClampNeg (FP.dmul (t_rowFactors x1.toNatClampNeg) r_2)) : Nat → UInt64) (fun t_rowFactors_9 =>
      pl ((x1 + (1 : Int32)) : Int32) (fun x1_10 =>
      some (.inl (x1_10, t_cells_4, t_rowFactors_9)))))))))
def f_X5_sweep_L2 (t_size : Int32) : (Int32 × (Nat → UInt64) × (Nat → UInt64)) → Option ((Int32 × (Nat → UInt64) × (Nat → UInt64)) ⊕ ((Nat → UInt64) × (Nat → UInt64)))
  | (x1, t_cells, t_columnFactors) =>
    if t_size ≤ x1 then
      some (.inr (t_cells, t_columnFactors))
    else
      (f_X5_sumOfColumn t_size t_cells x1).bind (fun r_16 =>
      (f_X5_divideColumn t_size t_cells x1 r_16).bind (fun t_cells_18 =>
      gd (okI x1 7) (
      gd (okD (FP.dmul (t_columnFactors x1.toNatClampNeg) r_16)) (
      gd (okI x1 7) (
      pl ((vf_upd t_columnFactors x1.toNatClampNeg (FP.dmul (t_columnFactors x1.toNatClampNeg) r_16)) : Nat → UInt64) (fun t_columnFactors_23 =>
      pl ((x1 + (1 : Int32)) : Int32) (fun x1_24 =>
      some (.inl (x1_24, t_cells_18, t_columnFactors_23)))))))))
def f_X5_sweep (t_size : Int32) (t_cells : Nat → UInt64) (t_rowFactors : Nat → UInt64) (t_columnFactors : Nat → UInt64) : Option ((Nat → UInt64) × (Nat → UInt64) × (Nat → UInt64)) :=
  (lpN (f_X5_sweep_L1 t_size) FU ((0 : Int32), t_cells, t_rowFactors)).bind (fun (t_cells_11, t_rowFactors_12) =>
  (lpN (f_X5_sweep_L2 t_size) FU ((0 : Int32), t_cells_11, t_columnFactors)).bind (fun (t_cells_25, t_columnFactors_26) =>
  some (t_cells_25, t_rowFactors_12, t_columnFactors_26)))
set_option maxHeartbeats 4000000 in
set_option maxRecDepth 100000 in
theorem l_X5_sweep_1 {p : Program} {l : Launch} {e : Env} {s : State} {m : MethodId} {args : Array Value} {below : List Frame} {meth : Method} {c : Code} {Q : State → Prop} {A0 : Nat → Prop} {H0 : Heap} (C : CallFix p m c cX5_sweep 4 s args wsX5_sweep RX5) (G : GT) (hK : gK G s) (hA : ∀ q : Nat, H0.size ≤ q → A0 q) (q_t q_t_cells q_t_rowFactors q_t_columnFactors : Nat) (t_size : Int32) (t_columnFactors : Nat → UInt64) (E_t_cells : Nat → UInt64) (E_t_rowFactors : Nat → UInt64) (K : ∀ (H : Heap) (locs : List Loc) (ls : Array Slot), va_P G.1 vwCl [(q_t, .inr (4, [.ref q_t_cells, .ref q_t_rowFactors, .ref q_t_columnFactors, .int t_size])), (q_t_cells, .inl (G.2 2, 49, .inr (.inr (.inr (.inl E_t_cells))))), (q_t_rowFactors, .inl (G.2 2, 7, .inr (.inr (.inr (.inl E_t_rowFactors))))), (q_t_columnFactors, .inl (G.2 2, 7, .inr (.inr (.inr (.inl t_columnFactors)))))] H → va_D A0 [(q_t, .inr (4, [.ref q_t_cells, .ref q_t_rowFactors, .ref q_t_columnFactors, .int t_size])), (q_t_cells, .inl (G.2 2, 49, .inr (.inr (.inr (.inl E_t_cells))))), (q_t_rowFactors, .inl (G.2 2, 7, .inr (.inr (.inr (.inl E_t_rowFactors))))), (q_t_columnFactors, .inl (G.2 2, 7, .inr (.inr (.inr (.inl t_columnFactors)))))] → va_S A0 H0 H locs → lv_has ls 4 [(0, .ref q_t)] → W p l e ({ frames := 2, cells := 0, slots := 0, locals := 48 } : Room) s m args below meth c H locs 0 0 Q (F0 m 42 ls [])) : ∀ (n : Nat) (x1 : Int32) (t_cells : Nat → UInt64) (t_rowFactors : Nat → UInt64), lpN (f_X5_sweep_L1 t_size) n (x1, t_cells, t_rowFactors) = some (E_t_cells, E_t_rowFactors) → ∀ (H : Heap) (locs : List Loc) (ls : Array Slot), va_P G.1 vwCl [(q_t, .inr (4, [.ref q_t_cells, .ref q_t_rowFactors, .ref q_t_columnFactors, .int t_size])), (q_t_cells, .inl (G.2 2, 49, .inr (.inr (.inr (.inl t_cells))))), (q_t_rowFactors, .inl (G.2 2, 7, .inr (.inr (.inr (.inl t_rowFactors))))), (q_t_columnFactors, .inl (G.2 2, 7, .inr (.inr (.inr (.inl t_columnFactors)))))] H → va_D A0 [(q_t, .inr (4, [.ref q_t_cells, .ref q_t_rowFactors, .ref q_t_columnFactors, .int t_size])), (q_t_cells, .inl (G.2 2, 49, .inr (.inr (.inr (.inl t_cells))))), (q_t_rowFactors, .inl (G.2 2, 7, .inr (.inr (.inr (.inl t_rowFactors))))), (q_t_columnFactors, .inl (G.2 2, 7, .inr (.inr (.inr (.inl t_columnFactors)))))] → va_S A0 H0 H locs → lv_has ls 4 [(0, .ref q_t), (1, .int x1)] → W p l e ({ frames := 2, cells := 0, slots := 0, locals := 48 } : Room) s m args below meth c H locs 0 0 Q (F0 m 2 ls []) := by
  obtain ⟨hx, hb, hml, hown, hts⟩ := C
  intro n
  induction n with
  | zero => intro x1 t_cells t_rowFactors h; exact absurd h (fun h => lp_0 h)
  | succ n ih =>
    intro x1 t_cells t_rowFactors h H locs ls hP hD hS hl
    obtain ⟨y, h, hk⟩ := lp_s h
    rw [f_X5_sweep_L1] at h
    refine lv_iload_n hx hb dX5_sweep_2 rfl (lv_at hl 1 rfl) ?_
    refine lv_aload_n hx hb dX5_sweep_3 rfl (lv_at hl 0 rfl) ?_
    refine va_get (D := G.1) (ci := 4) (v := .int t_size) (C := RX5) (T := TX5) (N := 4) hx hb hts wi_X5_sweep_X5 hown hK hP 0 rfl rfl 3 (by decide) (hts _ wd_X5_sweep_1) (fun _ h9 => h9) rfl dX5_sweep_4 ?_
    refine lv_icmp_ge (tgt := 42) hx hb dX5_sweep_7 (by decide) (fun c_1 => ?_) (fun c_1 => ?_)
    · replace h := it_t h c_1
      obtain rfl := sm1 h
      obtain ⟨rfl, rfl⟩ := sm2 hk
      exact K H locs ls hP hD hS (lv_sub hl [0] rfl)
    · replace h := it_f h c_1
      refine lv_aload_n hx hb dX5_sweep_10 rfl (lv_at hl 0 rfl) ?_
      refine lv_iload_n hx hb dX5_sweep_11 rfl (lv_at hl 1 rfl) ?_
      obtain ⟨r_2, hf_3, h⟩ := bd_ok h
      refine ck_Vd (rest := []) (wn := [(q_t, .inr (4, [.ref q_t_cells, .ref q_t_rowFactors, .ref q_t_columnFactors, .int t_size])), (q_t_cells, .inl (G.2 2, 49, .inr (.inr (.inr (.inl t_cells))))), (q_t_rowFactors, .inl (G.2 2, 7, .inr (.inr (.inr (.inl t_rowFactors))))), (q_t_columnFactors, .inl (G.2 2, 7, .inr (.inr (.inr (.inl t_columnFactors)))))]) ⟨hx, hb, hml, hown, hts⟩ hK hP hD hS hA [0, 1] [2, 3] [2, 3, 0, 1] (c_X5_sumOfRow l G q_t q_t_cells q_t_rowFactors q_t_columnFactors _ t_size t_cells x1 _ hf_3) (cwV 1 hts gX5_sweep_X5_sumOfRow rfl rfl rfl (by decide +kernel) ⟨Nat.le_of_ble_eq_true rfl, Nat.le_of_ble_eq_true rfl⟩) rfl rfl rfl rfl rfl rfl (by decide) rfl rfl rfl hl.1 rfl (Nat.le_of_ble_eq_true rfl) dX5_sweep_12 ⟨Nat.zero_le _, Nat.zero_le _⟩ (fun H locs hP hD hS => ?_)
      refine lv_dstore_n (lv' := [(2, .double r_2), (0, .ref q_t), (1, .int x1)]) hx hb dX5_sweep_15 rfl hl (by decide) rfl (fun ls hl => ?_)
      refine lv_aload_n hx hb dX5_sweep_16 rfl (lv_at hl 1 rfl) ?_
      refine lv_iload_n hx hb dX5_sweep_17 rfl (lv_at hl 2 rfl) ?_
      refine lv_dload_n hx hb dX5_sweep_18 rfl (lv_at hl 0 rfl) ?_
      obtain ⟨t_cells_4, hf_5, h⟩ := bd_ok h
      refine ck_Vv (rest := []) (wn := [(q_t, .inr (4, [.ref q_t_cells, .ref q_t_rowFactors, .ref q_t_columnFactors, .int t_size])), (q_t_cells, .inl (G.2 2, 49, .inr (.inr (.inr (.inl t_cells_4))))), (q_t_rowFactors, .inl (G.2 2, 7, .inr (.inr (.inr (.inl t_rowFactors))))), (q_t_columnFactors, .inl (G.2 2, 7, .inr (.inr (.inr (.inl t_columnFactors)))))]) ⟨hx, hb, hml, hown, hts⟩ hK hP hD hS hA [0, 1] [2, 3] [2, 3, 0, 1] (c_X5_divideRow l G q_t q_t_cells q_t_rowFactors q_t_columnFactors _ t_size t_cells x1 r_2 _ hf_5) (cwV 2 hts gX5_sweep_X5_divideRow rfl rfl rfl (by decide +kernel) ⟨Nat.le_of_ble_eq_true rfl, Nat.le_of_ble_eq_true rfl⟩) rfl rfl rfl rfl rfl rfl (by decide) rfl rfl rfl hl.1 rfl (Nat.le_of_ble_eq_true rfl) dX5_sweep_19 ⟨Nat.zero_le _, Nat.zero_le _⟩ (fun H locs hP hD hS => ?_)
      refine lv_aload_n hx hb dX5_sweep_22 rfl (lv_at hl 1 rfl) ?_
      refine va_get (D := G.1) (ci := 4) (v := .ref q_t_rowFactors) (C := RX5) (T := TX5) (N := 4) hx hb hts wi_X5_sweep_X5 hown hK hP 0 rfl rfl 1 (by decide) (hts _ wd_X5_sweep_2) (fun _ h9 => h9) rfl dX5_sweep_23 ?_
      refine lv_iload_n hx hb dX5_sweep_26 rfl (lv_at hl 2 rfl) ?_
      refine lv_aload_n hx hb dX5_sweep_27 rfl (lv_at hl 1 rfl) ?_
      refine va_get (D := G.1) (ci := 4) (v := .ref q_t_rowFactors) (C := RX5) (T := TX5) (N := 4) hx hb hts wi_X5_sweep_X5 hown hK hP 0 rfl rfl 1 (by decide) (hts _ wd_X5_sweep_2) (fun _ h9 => h9) rfl dX5_sweep_28 ?_
      refine lv_iload_n hx hb dX5_sweep_31 rfl (lv_at hl 2 rfl) ?_
      obtain ⟨g_6, h⟩ := gd_ok h
      refine va_dald (D := G.1) hx hb hK hP 2 2 rfl rfl g_6 dX5_sweep_32 ?_
      refine lv_dload_n hx hb dX5_sweep_33 rfl (lv_at hl 0 rfl) ?_
      obtain ⟨g_7, h⟩ := gd_ok h
      refine lv_dmul hx hb dX5_sweep_34 g_7 ?_
      obtain ⟨g_8, h⟩ := gd_ok h
      obtain ⟨t_rowFactors_9, et_rowFactors_9, h⟩ := pl_ok h
      refine st_d (D := G.1) (wn := [(q_t, .inr (4, [.ref q_t_cells, .ref q_t_rowFactors, .ref q_t_columnFactors, .int t_size])), (q_t_cells, .inl (G.2 2, 49, .inr (.inr (.inr (.inl t_cells_4))))), (q_t_rowFactors, .inl (G.2 2, 7, .inr (.inr (.inr (.inl t_rowFactors_9))))), (q_t_columnFactors, .inl (G.2 2, 7, .inr (.inr (.inr (.inl t_columnFactors)))))]) hx hb hK hP hD hS 2 2 rfl rfl g_8 dX5_sweep_35 et_rowFactors_9 rfl (fun H locs hP hD hS => ?_)
      obtain ⟨x1_10, ex1_10, h⟩ := pl_ok h
      refine lv_iinc (v := x1_10) (lv' := [(1, .int x1_10), (2, .double r_2), (0, .ref q_t)]) hx hb dX5_sweep_36 hl (k := 2) rfl (by rw [ex1_10]; rfl) (by decide) rfl (fun ls hl => ?_)
      refine lv_goto (tgt := 2) hx hb dX5_sweep_39 (by decide) ?_
      obtain rfl := sm1 h
      exact ih x1_10 t_cells_4 t_rowFactors_9 hk H locs ls hP hD hS (lv_sub hl [2, 0] rfl)
set_option maxHeartbeats 4000000 in
set_option maxRecDepth 100000 in
theorem l_X5_sweep_2 {p : Program} {l : Launch} {e : Env} {s : State} {m : MethodId} {args : Array Value} {below : List Frame} {meth : Method} {c : Code} {Q : State → Prop} {A0 : Nat → Prop} {H0 : Heap} (C : CallFix p m c cX5_sweep 4 s args wsX5_sweep RX5) (G : GT) (hK : gK G s) (hA : ∀ q : Nat, H0.size ≤ q → A0 q) (q_t q_t_cells q_t_rowFactors q_t_columnFactors : Nat) (t_size : Int32) (t_rowFactors : Nat → UInt64) (E_t_cells : Nat → UInt64) (E_t_columnFactors : Nat → UInt64) (K : ∀ (H : Heap) (locs : List Loc) (ls : Array Slot), va_P G.1 vwCl [(q_t, .inr (4, [.ref q_t_cells, .ref q_t_rowFactors, .ref q_t_columnFactors, .int t_size])), (q_t_cells, .inl (G.2 2, 49, .inr (.inr (.inr (.inl E_t_cells))))), (q_t_rowFactors, .inl (G.2 2, 7, .inr (.inr (.inr (.inl t_rowFactors))))), (q_t_columnFactors, .inl (G.2 2, 7, .inr (.inr (.inr (.inl E_t_columnFactors)))))] H → va_D A0 [(q_t, .inr (4, [.ref q_t_cells, .ref q_t_rowFactors, .ref q_t_columnFactors, .int t_size])), (q_t_cells, .inl (G.2 2, 49, .inr (.inr (.inr (.inl E_t_cells))))), (q_t_rowFactors, .inl (G.2 2, 7, .inr (.inr (.inr (.inl t_rowFactors))))), (q_t_columnFactors, .inl (G.2 2, 7, .inr (.inr (.inr (.inl E_t_columnFactors)))))] → va_S A0 H0 H locs → lv_has ls 4 [] → W p l e ({ frames := 2, cells := 0, slots := 0, locals := 48 } : Room) s m args below meth c H locs 0 0 Q (F0 m 84 ls [])) : ∀ (n : Nat) (x1 : Int32) (t_cells : Nat → UInt64) (t_columnFactors : Nat → UInt64), lpN (f_X5_sweep_L2 t_size) n (x1, t_cells, t_columnFactors) = some (E_t_cells, E_t_columnFactors) → ∀ (H : Heap) (locs : List Loc) (ls : Array Slot), va_P G.1 vwCl [(q_t, .inr (4, [.ref q_t_cells, .ref q_t_rowFactors, .ref q_t_columnFactors, .int t_size])), (q_t_cells, .inl (G.2 2, 49, .inr (.inr (.inr (.inl t_cells))))), (q_t_rowFactors, .inl (G.2 2, 7, .inr (.inr (.inr (.inl t_rowFactors))))), (q_t_columnFactors, .inl (G.2 2, 7, .inr (.inr (.inr (.inl t_columnFactors)))))] H → va_D A0 [(q_t, .inr (4, [.ref q_t_cells, .ref q_t_rowFactors, .ref q_t_columnFactors, .int t_size])), (q_t_cells, .inl (G.2 2, 49, .inr (.inr (.inr (.inl t_cells))))), (q_t_rowFactors, .inl (G.2 2, 7, .inr (.inr (.inr (.inl t_rowFactors))))), (q_t_columnFactors, .inl (G.2 2, 7, .inr (.inr (.inr (.inl t_columnFactors)))))] → va_S A0 H0 H locs → lv_has ls 4 [(0, .ref q_t), (1, .int x1)] → W p l e ({ frames := 2, cells := 0, slots := 0, locals := 48 } : Room) s m args below meth c H locs 0 0 Q (F0 m 44 ls []) := by
  obtain ⟨hx, hb, hml, hown, hts⟩ := C
  intro n
  induction n with
  | zero => intro x1 t_cells t_columnFactors h; exact absurd h (fun h => lp_0 h)
  | succ n ih =>
    intro x1 t_cells t_columnFactors h H locs ls hP hD hS hl
    obtain ⟨y, h, hk⟩ := lp_s h
    rw [f_X5_sweep_L2] at h
    refine lv_iload_n hx hb dX5_sweep_44 rfl (lv_at hl 1 rfl) ?_
    refine lv_aload_n hx hb dX5_sweep_45 rfl (lv_at hl 0 rfl) ?_
    refine va_get (D := G.1) (ci := 4) (v := .int t_size) (C := RX5) (T := TX5) (N := 4) hx hb hts wi_X5_sweep_X5 hown hK hP 0 rfl rfl 3 (by decide) (hts _ wd_X5_sweep_1) (fun _ h9 => h9) rfl dX5_sweep_46 ?_
    refine lv_icmp_ge (tgt := 84) hx hb dX5_sweep_49 (by decide) (fun c_15 => ?_) (fun c_15 => ?_)
    · replace h := it_t h c_15
      obtain rfl := sm1 h
      obtain ⟨rfl, rfl⟩ := sm2 hk
      exact K H locs ls hP hD hS (lv_sub hl [] rfl)
    · replace h := it_f h c_15
      refine lv_aload_n hx hb dX5_sweep_52 rfl (lv_at hl 0 rfl) ?_
      refine lv_iload_n hx hb dX5_sweep_53 rfl (lv_at hl 1 rfl) ?_
      obtain ⟨r_16, hf_17, h⟩ := bd_ok h
      refine ck_Vd (rest := []) (wn := [(q_t, .inr (4, [.ref q_t_cells, .ref q_t_rowFactors, .ref q_t_columnFactors, .int t_size])), (q_t_cells, .inl (G.2 2, 49, .inr (.inr (.inr (.inl t_cells))))), (q_t_rowFactors, .inl (G.2 2, 7, .inr (.inr (.inr (.inl t_rowFactors))))), (q_t_columnFactors, .inl (G.2 2, 7, .inr (.inr (.inr (.inl t_columnFactors)))))]) ⟨hx, hb, hml, hown, hts⟩ hK hP hD hS hA [0, 1] [2, 3] [2, 3, 0, 1] (c_X5_sumOfColumn l G q_t q_t_cells q_t_rowFactors q_t_columnFactors _ t_size t_cells x1 _ hf_17) (cwV 1 hts gX5_sweep_X5_sumOfColumn rfl rfl rfl (by decide +kernel) ⟨Nat.le_of_ble_eq_true rfl, Nat.le_of_ble_eq_true rfl⟩) rfl rfl rfl rfl rfl rfl (by decide) rfl rfl rfl hl.1 rfl (Nat.le_of_ble_eq_true rfl) dX5_sweep_54 ⟨Nat.zero_le _, Nat.zero_le _⟩ (fun H locs hP hD hS => ?_)
      refine lv_dstore_n (lv' := [(2, .double r_16), (0, .ref q_t), (1, .int x1)]) hx hb dX5_sweep_57 rfl hl (by decide) rfl (fun ls hl => ?_)
      refine lv_aload_n hx hb dX5_sweep_58 rfl (lv_at hl 1 rfl) ?_
      refine lv_iload_n hx hb dX5_sweep_59 rfl (lv_at hl 2 rfl) ?_
      refine lv_dload_n hx hb dX5_sweep_60 rfl (lv_at hl 0 rfl) ?_
      obtain ⟨t_cells_18, hf_19, h⟩ := bd_ok h
      refine ck_Vv (rest := []) (wn := [(q_t, .inr (4, [.ref q_t_cells, .ref q_t_rowFactors, .ref q_t_columnFactors, .int t_size])), (q_t_cells, .inl (G.2 2, 49, .inr (.inr (.inr (.inl t_cells_18))))), (q_t_rowFactors, .inl (G.2 2, 7, .inr (.inr (.inr (.inl t_rowFactors))))), (q_t_columnFactors, .inl (G.2 2, 7, .inr (.inr (.inr (.inl t_columnFactors)))))]) ⟨hx, hb, hml, hown, hts⟩ hK hP hD hS hA [0, 1] [2, 3] [2, 3, 0, 1] (c_X5_divideColumn l G q_t q_t_cells q_t_rowFactors q_t_columnFactors _ t_size t_cells x1 r_16 _ hf_19) (cwV 2 hts gX5_sweep_X5_divideColumn rfl rfl rfl (by decide +kernel) ⟨Nat.le_of_ble_eq_true rfl, Nat.le_of_ble_eq_true rfl⟩) rfl rfl rfl rfl rfl rfl (by decide) rfl rfl rfl hl.1 rfl (Nat.le_of_ble_eq_true rfl) dX5_sweep_61 ⟨Nat.zero_le _, Nat.zero_le _⟩ (fun H locs hP hD hS => ?_)
      refine lv_aload_n hx hb dX5_sweep_64 rfl (lv_at hl 1 rfl) ?_
      refine va_get (D := G.1) (ci := 4) (v := .ref q_t_columnFactors) (C := RX5) (T := TX5) (N := 4) hx hb hts wi_X5_sweep_X5 hown hK hP 0 rfl rfl 2 (by decide) (hts _ wd_X5_sweep_3) (fun _ h9 => h9) rfl dX5_sweep_65 ?_
      refine lv_iload_n hx hb dX5_sweep_68 rfl (lv_at hl 2 rfl) ?_
      refine lv_aload_n hx hb dX5_sweep_69 rfl (lv_at hl 1 rfl) ?_
      refine va_get (D := G.1) (ci := 4) (v := .ref q_t_columnFactors) (C := RX5) (T := TX5) (N := 4) hx hb hts wi_X5_sweep_X5 hown hK hP 0 rfl rfl 2 (by decide) (hts _ wd_X5_sweep_3) (fun _ h9 => h9) rfl dX5_sweep_70 ?_
      refine lv_iload_n hx hb dX5_sweep_73 rfl (lv_at hl 2 rfl) ?_
      obtain ⟨g_20, h⟩ := gd_ok h
      refine va_dald (D := G.1) hx hb hK hP 3 2 rfl rfl g_20 dX5_sweep_74 ?_
      refine lv_dload_n hx hb dX5_sweep_75 rfl (lv_at hl 0 rfl) ?_
      obtain ⟨g_21, h⟩ := gd_ok h
      refine lv_dmul hx hb dX5_sweep_76 g_21 ?_
      obtain ⟨g_22, h⟩ := gd_ok h
      obtain ⟨t_columnFactors_23, et_columnFactors_23, h⟩ := pl_ok h
      refine st_d (D := G.1) (wn := [(q_t, .inr (4, [.ref q_t_cells, .ref q_t_rowFactors, .ref q_t_columnFactors, .int t_size])), (q_t_cells, .inl (G.2 2, 49, .inr (.inr (.inr (.inl t_cells_18))))), (q_t_rowFactors, .inl (G.2 2, 7, .inr (.inr (.inr (.inl t_rowFactors))))), (q_t_columnFactors, .inl (G.2 2, 7, .inr (.inr (.inr (.inl t_columnFactors_23)))))]) hx hb hK hP hD hS 3 2 rfl rfl g_22 dX5_sweep_77 et_columnFactors_23 rfl (fun H locs hP hD hS => ?_)
      obtain ⟨x1_24, ex1_24, h⟩ := pl_ok h
      refine lv_iinc (v := x1_24) (lv' := [(1, .int x1_24), (2, .double r_16), (0, .ref q_t)]) hx hb dX5_sweep_78 hl (k := 2) rfl (by rw [ex1_24]; rfl) (by decide) rfl (fun ls hl => ?_)
      refine lv_goto (tgt := 44) hx hb dX5_sweep_81 (by decide) ?_
      obtain rfl := sm1 h
      exact ih x1_24 t_cells_18 t_columnFactors_23 hk H locs ls hP hD hS (lv_sub hl [2, 0] rfl)
set_option maxHeartbeats 4000000 in
set_option maxRecDepth 100000 in
theorem k_X5_sweep {p : Program} {l : Launch} {e : Env} {s : State} {m : MethodId} {args : Array Value} {below : List Frame} {meth : Method} {c : Code} {Q : State → Prop} {A0 : Nat → Prop} {H0 : Heap} (C : CallFix p m c cX5_sweep 4 s args wsX5_sweep RX5) (G : GT) (hK : gK G s) (hA : ∀ q : Nat, H0.size ≤ q → A0 q) (q_t q_t_cells q_t_rowFactors q_t_columnFactors : Nat) (t_size : Int32) (t_cells : Nat → UInt64) (t_rowFactors : Nat → UInt64) (t_columnFactors : Nat → UInt64) (o_t_cells : Nat → UInt64) (o_t_rowFactors : Nat → UInt64) (o_t_columnFactors : Nat → UInt64) (h : f_X5_sweep t_size t_cells t_rowFactors t_columnFactors = some (o_t_cells, o_t_rowFactors, o_t_columnFactors)) (KR : ∀ (H : Heap) (locs : List Loc) (ls : Array Slot) (pc : Nat), decode cX5_sweep pc = .ok (.return_, 1) → va_P G.1 vwCl [(q_t, .inr (4, [.ref q_t_cells, .ref q_t_rowFactors, .ref q_t_columnFactors, .int t_size])), (q_t_cells, .inl (G.2 2, 49, .inr (.inr (.inr (.inl o_t_cells))))), (q_t_rowFactors, .inl (G.2 2, 7, .inr (.inr (.inr (.inl o_t_rowFactors))))), (q_t_columnFactors, .inl (G.2 2, 7, .inr (.inr (.inr (.inl o_t_columnFactors)))))] H → va_D A0 [(q_t, .inr (4, [.ref q_t_cells, .ref q_t_rowFactors, .ref q_t_columnFactors, .int t_size])), (q_t_cells, .inl (G.2 2, 49, .inr (.inr (.inr (.inl o_t_cells))))), (q_t_rowFactors, .inl (G.2 2, 7, .inr (.inr (.inr (.inl o_t_rowFactors))))), (q_t_columnFactors, .inl (G.2 2, 7, .inr (.inr (.inr (.inl o_t_columnFactors)))))] → va_S A0 H0 H locs → W p l e ({ frames := 2, cells := 0, slots := 0, locals := 48 } : Room) s m args below meth c H locs 0 0 Q (F0 m pc ls [])) : ∀ (H : Heap) (locs : List Loc) (ls : Array Slot), va_P G.1 vwCl [(q_t, .inr (4, [.ref q_t_cells, .ref q_t_rowFactors, .ref q_t_columnFactors, .int t_size])), (q_t_cells, .inl (G.2 2, 49, .inr (.inr (.inr (.inl t_cells))))), (q_t_rowFactors, .inl (G.2 2, 7, .inr (.inr (.inr (.inl t_rowFactors))))), (q_t_columnFactors, .inl (G.2 2, 7, .inr (.inr (.inr (.inl t_columnFactors)))))] H → va_D A0 [(q_t, .inr (4, [.ref q_t_cells, .ref q_t_rowFactors, .ref q_t_columnFactors, .int t_size])), (q_t_cells, .inl (G.2 2, 49, .inr (.inr (.inr (.inl t_cells))))), (q_t_rowFactors, .inl (G.2 2, 7, .inr (.inr (.inr (.inl t_rowFactors))))), (q_t_columnFactors, .inl (G.2 2, 7, .inr (.inr (.inr (.inl t_columnFactors)))))] → va_S A0 H0 H locs → lv_has ls 4 [(0, .ref q_t)] → W p l e ({ frames := 2, cells := 0, slots := 0, locals := 48 } : Room) s m args below meth c H locs 0 0 Q (F0 m 0 ls []) := by
  obtain ⟨hx, hb, hml, hown, hts⟩ := C
  intro H locs ls hP hD hS hl
  rw [f_X5_sweep] at h
  refine lv_iconst (v := 0) hx hb dX5_sweep_0 (by decide) ?_
  refine lv_istore_n (lv' := [(1, .int (0 : Int32)), (0, .ref q_t)]) hx hb dX5_sweep_1 rfl hl (by decide) rfl (fun ls hl => ?_)
  obtain ⟨⟨t_cells_11, t_rowFactors_12⟩, hz_14, h⟩ := bd_ok h
  refine l_X5_sweep_1 ⟨hx, hb, hml, hown, hts⟩ G hK hA q_t q_t_cells q_t_rowFactors q_t_columnFactors t_size t_columnFactors t_cells_11 t_rowFactors_12 ?_ FU (0 : Int32) t_cells t_rowFactors hz_14 H locs ls hP hD hS (lv_sub hl [1, 0] rfl)
  intro H locs ls hP hD hS hl
  refine lv_iconst (v := 0) hx hb dX5_sweep_42 (by decide) ?_
  refine lv_istore_n (lv' := [(1, .int (0 : Int32)), (0, .ref q_t)]) hx hb dX5_sweep_43 rfl hl (by decide) rfl (fun ls hl => ?_)
  obtain ⟨⟨t_cells_25, t_columnFactors_26⟩, hz_28, h⟩ := bd_ok h
  refine l_X5_sweep_2 ⟨hx, hb, hml, hown, hts⟩ G hK hA q_t q_t_cells q_t_rowFactors q_t_columnFactors t_size t_rowFactors_12 t_cells_25 t_columnFactors_26 ?_ FU (0 : Int32) t_cells_11 t_columnFactors hz_28 H locs ls hP hD hS (lv_sub hl [1, 0] rfl)
  intro H locs ls hP hD hS hl
  obtain ⟨rfl, rfl, rfl⟩ := sm3 h
  exact KR H locs ls 84 dX5_sweep_84 hP hD hS
set_option maxHeartbeats 4000000 in
set_option maxRecDepth 100000 in
theorem c_X5_sweep (l : Launch) (G : GT) (q_t q_t_cells q_t_rowFactors q_t_columnFactors : Nat) (sz : Nat) (t_size : Int32) (t_cells : Nat → UInt64) (t_rowFactors : Nat → UInt64) (t_columnFactors : Nat → UInt64) (o_t_cells : Nat → UInt64) (o_t_rowFactors : Nat → UInt64) (o_t_columnFactors : Nat → UInt64) (h : f_X5_sweep t_size t_cells t_rowFactors t_columnFactors = some (o_t_cells, o_t_rowFactors, o_t_columnFactors)) : Met l yX5_sweep wsX5_sweep ({ frames := 2, cells := 0, slots := 0, locals := 48 } : Room) (va_Pc [.ref q_t] (pcW G [(q_t, .inr (4, [.ref q_t_cells, .ref q_t_rowFactors, .ref q_t_columnFactors, .int t_size])), (q_t_cells, .inl (G.2 2, 49, .inr (.inr (.inr (.inl t_cells))))), (q_t_rowFactors, .inl (G.2 2, 7, .inr (.inr (.inr (.inl t_rowFactors))))), (q_t_columnFactors, .inl (G.2 2, 7, .inr (.inr (.inr (.inl t_columnFactors)))))] sz)) (va_Qv (fun (_ : Unit) => True) (fun _ t => atW G (va_A [(q_t, .inr (4, [.ref q_t_cells, .ref q_t_rowFactors, .ref q_t_columnFactors, .int t_size])), (q_t_cells, .inl (G.2 2, 49, .inr (.inr (.inr (.inl t_cells))))), (q_t_rowFactors, .inl (G.2 2, 7, .inr (.inr (.inr (.inl t_rowFactors))))), (q_t_columnFactors, .inl (G.2 2, 7, .inr (.inr (.inr (.inl t_columnFactors)))))] sz) [(q_t, .inr (4, [.ref q_t_cells, .ref q_t_rowFactors, .ref q_t_columnFactors, .int t_size])), (q_t_cells, .inl (G.2 2, 49, .inr (.inr (.inr (.inl o_t_cells))))), (q_t_rowFactors, .inl (G.2 2, 7, .inr (.inr (.inr (.inl o_t_rowFactors))))), (q_t_columnFactors, .inl (G.2 2, 7, .inr (.inr (.inr (.inl o_t_columnFactors)))))] t) (va_A [(q_t, .inr (4, [.ref q_t_cells, .ref q_t_rowFactors, .ref q_t_columnFactors, .int t_size])), (q_t_cells, .inl (G.2 2, 49, .inr (.inr (.inr (.inl t_cells))))), (q_t_rowFactors, .inl (G.2 2, 7, .inr (.inr (.inr (.inl t_rowFactors))))), (q_t_columnFactors, .inl (G.2 2, 7, .inr (.inr (.inr (.inl t_columnFactors)))))] sz)) 0 0 (va_A [(q_t, .inr (4, [.ref q_t_cells, .ref q_t_rowFactors, .ref q_t_columnFactors, .int t_size])), (q_t_cells, .inl (G.2 2, 49, .inr (.inr (.inr (.inl t_cells))))), (q_t_rowFactors, .inl (G.2 2, 7, .inr (.inr (.inr (.inl t_rowFactors))))), (q_t_columnFactors, .inl (G.2 2, 7, .inr (.inr (.inr (.inl t_columnFactors)))))] sz) := by
  refine Met.ofW (cc := cX5_sweep) (maxL := 4) (ret := none) (by decide) rfl ?_
  intro p e s m args below meth c s₁ B hml hv
  obtain ⟨rfl, hsz, hP, hK, hD0⟩ := hv
  subst hsz
  have hD := hD0.self (sz := s.heap.size)
  generalize hAe : va_A [(q_t, .inr (4, [.ref q_t_cells, .ref q_t_rowFactors, .ref q_t_columnFactors, .int t_size])), (q_t_cells, .inl (G.2 2, 49, .inr (.inr (.inr (.inl t_cells))))), (q_t_rowFactors, .inl (G.2 2, 7, .inr (.inr (.inr (.inl t_rowFactors))))), (q_t_columnFactors, .inl (G.2 2, 7, .inr (.inr (.inr (.inl t_columnFactors)))))] s.heap.size = A at hD ⊢
  have hA : ∀ q : Nat, s.heap.size ≤ q → A q := fun q h => by rw [← hAe]; exact Or.inr h
  have hl := lv_entry ([.ref q_t]) (n := 4) (Nat.le_of_ble_eq_true rfl)
  rw [lg_entry_eq]
  refine k_X5_sweep ⟨B.exec, B.bytes, hml, findClass_of_methodNamed B.named, atoms_spec (ws := wsX5_sweep) B.pre⟩ G hK hA q_t q_t_cells q_t_rowFactors q_t_columnFactors _ _ _ _ _ _ _ h ?_ _ _ _ hP hD va_S.rf hl
  intro H locs ls pc hd hP hD hS
  exact W.vret B.exec B.bytes B.returns (fun t ht hW => ⟨⟨(), rfl, trivial, by rw [ht]; exact hP, hD⟩, hS.F ht⟩) hS.2.2 hd B.notSynchronized
