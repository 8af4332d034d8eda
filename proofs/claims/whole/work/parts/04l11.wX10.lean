set_option maxRecDepth 20000 in
theorem wd_X10_gapBits_2 : Cond.constantLong RX10 189 (-9000000000000000002) ∈ wsX10_gapBits := List.mem_of_getElem? (i := 2) (by decide +kernel)
set_option maxRecDepth 20000 in
theorem wd_X10_gapBits_1 : Cond.constantLong RX10 183 (-9000000000000000004) ∈ wsX10_gapBits := List.mem_of_getElem? (i := 1) (by decide +kernel)
set_option maxRecDepth 20000 in
theorem wd_X10_gapBits_3 : Cond.fieldLink RX10 7 "PermanentDeskModel" "z" "[I" ∈ wsX10_gapBits := List.mem_of_getElem? (i := 3) (by decide +kernel)
set_option maxRecDepth 20000 in
theorem wi_X10_gapBits_X10 : ∀ w ∈ u_ws RX10 TX10 21, w ∈ wsX10_gapBits := by decide +kernel
def f_X10_gapBits_L1 (t_z : Nat → Int32) (t_scaled : Nat → UInt64) : (UInt64 × Int32) → Option ((UInt64 × Int32) ⊕ UInt64)
  | (x2, x4) =>
    gd (okI (49 : Int32) 50) (
    if (t_z (49 : Int32).toNatClampNeg) ≤ x4 then
      some (.inr x2)
    else
      (f_X10_scaledSum t_z t_scaled x4 (0 : Int32)).bind (fun r_16 =>
      gd (okD (FP.dsub r_16 FP.dconst1)) (
      pl ((FP.dsub r_16 FP.dconst1) : UInt64) (fun x5_19 =>
      Option.bind (
        if 0 ≤ (Op.cmpValue (FP.dcmp x5_19 FP.dconst0) .g) then
          some x5_19
        else
          some (FP.dneg x5_19)) (fun y_21 =>
      if (Op.cmpValue (FP.dcmp y_21 x2) .l) ≤ 0 then
        pl ((x4 + (1 : Int32)) : Int32) (fun x4_23 =>
        some (.inl (x2, x4_23)))
      else
        pl ((x4 + (1 : Int32)) : Int32) (fun x4_24 =>
        some (.inl (y_21, x4_24))))))))
def f_X10_gapBits (t_z : Nat → Int32) (t_scaled : Nat → UInt64) (t_rowFactors : Nat → UInt64) (t_columnFactors : Nat → UInt64) (a1 : Int32) : Option (Int64 × (Nat → UInt64) × (Nat → UInt64) × (Nat → UInt64)) :=
  (f_X10_isSweeps a1).bind (fun r_1 =>
  if r_1 = 0 then
    (f_X10_isSweeps a1).bind (fun r_4 =>
    if r_4 = 0 then
      some ((-9000000000000000002 : Int64), t_scaled, t_rowFactors, t_columnFactors)
    else
      some ((-9000000000000000004 : Int64), t_scaled, t_rowFactors, t_columnFactors))
  else
    (f_X10_canScale t_z).bind (fun r_7 =>
    if r_7 = 0 then
      (f_X10_isSweeps a1).bind (fun r_30 =>
      if r_30 = 0 then
        some ((-9000000000000000002 : Int64), t_scaled, t_rowFactors, t_columnFactors)
      else
        some ((-9000000000000000004 : Int64), t_scaled, t_rowFactors, t_columnFactors))
    else
      (f_X10_sweep t_z t_scaled t_rowFactors t_columnFactors a1).bind (fun (t_scaled_10, t_rowFactors_11, t_columnFactors_12) =>
      (lpN (f_X10_gapBits_L1 t_z t_scaled_10) FU (FP.dconst0, (0 : Int32))).bind (fun x2_25 =>
      (f_Jxe99ae_doubleToLongBits_ccdee x2_25).bind (fun r_28 =>
      some (r_28, t_scaled_10, t_rowFactors_11, t_columnFactors_12))))))
set_option maxHeartbeats 4000000 in
set_option maxRecDepth 100000 in
theorem l_X10_gapBits_1 {p : Program} {l : Launch} {e : Env} {s : State} {m : MethodId} {args : Array Value} {below : List Frame} {meth : Method} {c : Code} {Q : State → Prop} {A0 : Nat → Prop} {H0 : Heap} (C : CallFix p m c cX10_gapBits 7 s args wsX10_gapBits RX10) (G : GT) (hK : gK G s) (hA : ∀ q : Nat, H0.size ≤ q → A0 q) (q_t q_t_z q_t_old q_t_past q_t_kept q_t_text q_t_order q_t_told q_t_rowsTaken q_t_columnsTaken q_t_ways q_t_scaled q_t_rowFactors q_t_columnFactors q_t_rest q_t_diagonals q_t_weights : Nat) (t_states : Int32) (t_isKept : Int32) (t_length : Int32) (t_spot : Int32) (t_toldRows : Int32) (t_z : Nat → Int32) (t_scaled : Nat → UInt64) (t_rowFactors : Nat → UInt64) (t_columnFactors : Nat → UInt64) (E_x2 : UInt64) (K : ∀ (H : Heap) (locs : List Loc) (ls : Array Slot), va_P G.1 vwCl [(q_t, .inr (9, [.ref q_t_z, .ref q_t_old, .ref q_t_past, .int t_states, .ref q_t_kept, .int t_isKept, .ref q_t_text, .int t_length, .ref q_t_order, .ref q_t_told, .int t_spot, .int t_toldRows, .ref q_t_rowsTaken, .ref q_t_columnsTaken, .ref q_t_ways, .ref q_t_scaled, .ref q_t_rowFactors, .ref q_t_columnFactors, .ref q_t_rest, .ref q_t_diagonals, .ref q_t_weights])), (q_t_z, .inl (G.2 0, 50, .inl t_z)), (q_t_scaled, .inl (G.2 2, 49, .inr (.inr (.inr (.inl t_scaled))))), (q_t_rowFactors, .inl (G.2 2, 7, .inr (.inr (.inr (.inl t_rowFactors))))), (q_t_columnFactors, .inl (G.2 2, 7, .inr (.inr (.inr (.inl t_columnFactors)))))] H → va_D A0 [(q_t, .inr (9, [.ref q_t_z, .ref q_t_old, .ref q_t_past, .int t_states, .ref q_t_kept, .int t_isKept, .ref q_t_text, .int t_length, .ref q_t_order, .ref q_t_told, .int t_spot, .int t_toldRows, .ref q_t_rowsTaken, .ref q_t_columnsTaken, .ref q_t_ways, .ref q_t_scaled, .ref q_t_rowFactors, .ref q_t_columnFactors, .ref q_t_rest, .ref q_t_diagonals, .ref q_t_weights])), (q_t_z, .inl (G.2 0, 50, .inl t_z)), (q_t_scaled, .inl (G.2 2, 49, .inr (.inr (.inr (.inl t_scaled))))), (q_t_rowFactors, .inl (G.2 2, 7, .inr (.inr (.inr (.inl t_rowFactors))))), (q_t_columnFactors, .inl (G.2 2, 7, .inr (.inr (.inr (.inl t_columnFactors)))))] → va_S A0 H0 H locs → lv_has ls 7 [(2, .double E_x2)] → W p l e ({ frames := 3, cells := 0, slots := 0, locals := 81 } : Room) s m args below meth c H locs 0 0 Q (F0 m 101 ls [])) : ∀ (n : Nat) (x2 : UInt64) (x4 : Int32), lpN (f_X10_gapBits_L1 t_z t_scaled) n (x2, x4) = some E_x2 → ∀ (H : Heap) (locs : List Loc) (ls : Array Slot), va_P G.1 vwCl [(q_t, .inr (9, [.ref q_t_z, .ref q_t_old, .ref q_t_past, .int t_states, .ref q_t_kept, .int t_isKept, .ref q_t_text, .int t_length, .ref q_t_order, .ref q_t_told, .int t_spot, .int t_toldRows, .ref q_t_rowsTaken, .ref q_t_columnsTaken, .ref q_t_ways, .ref q_t_scaled, .ref q_t_rowFactors, .ref q_t_columnFactors, .ref q_t_rest, .ref q_t_diagonals, .ref q_t_weights])), (q_t_z, .inl (G.2 0, 50, .inl t_z)), (q_t_scaled, .inl (G.2 2, 49, .inr (.inr (.inr (.inl t_scaled))))), (q_t_rowFactors, .inl (G.2 2, 7, .inr (.inr (.inr (.inl t_rowFactors))))), (q_t_columnFactors, .inl (G.2 2, 7, .inr (.inr (.inr (.inl t_columnFactors)))))] H → va_D A0 [(q_t, .inr (9, [.ref q_t_z, .ref q_t_old, .ref q_t_past, .int t_states, .ref q_t_kept, .int t_isKept, .ref q_t_text, .int t_length, .ref q_t_order, .ref q_t_told, .int t_spot, .int t_toldRows, .ref q_t_rowsTaken, .ref q_t_columnsTaken, .ref q_t_ways, .ref q_t_scaled, .ref q_t_rowFactors, .ref q_t_columnFactors, .ref q_t_rest, .ref q_t_diagonals, .ref q_t_weights])), (q_t_z, .inl (G.2 0, 50, .inl t_z)), (q_t_scaled, .inl (G.2 2, 49, .inr (.inr (.inr (.inl t_scaled))))), (q_t_rowFactors, .inl (G.2 2, 7, .inr (.inr (.inr (.inl t_rowFactors))))), (q_t_columnFactors, .inl (G.2 2, 7, .inr (.inr (.inr (.inl t_columnFactors)))))] → va_S A0 H0 H locs → lv_has ls 7 [(0, .ref q_t), (2, .double x2), (4, .int x4)] → W p l e ({ frames := 3, cells := 0, slots := 0, locals := 81 } : Room) s m args below meth c H locs 0 0 Q (F0 m 41 ls []) := by
  obtain ⟨hx, hb, hml, hown, hts⟩ := C
  intro n
  induction n with
  | zero => intro x2 x4 h; exact absurd h (fun h => lp_0 h)
  | succ n ih =>
    intro x2 x4 h H locs ls hP hD hS hl
    obtain ⟨y, h, hk⟩ := lp_s h
    rw [f_X10_gapBits_L1] at h
    refine lv_iload hx hb dX10_gapBits_41 (lv_at hl 2 rfl) ?_
    refine lv_aload_n hx hb dX10_gapBits_43 rfl (lv_at hl 0 rfl) ?_
    refine va_get (D := G.1) (ci := 9) (v := .ref q_t_z) (C := RX10) (T := TX10) (N := 21) hx hb hts wi_X10_gapBits_X10 hown hK hP 0 rfl rfl 0 (by decide) (hts _ wd_X10_gapBits_3) (fun _ h9 => h9) rfl dX10_gapBits_44 ?_
    refine lv_bipush (v := 49) hx hb dX10_gapBits_47 (by decide) ?_
    obtain ⟨g_14, h⟩ := gd_ok h
    refine va_iald (D := G.1) hx hb hK hP 1 0 rfl rfl g_14 dX10_gapBits_49 ?_
    refine lv_icmp_ge (tgt := 101) hx hb dX10_gapBits_50 (by decide) (fun c_15 => ?_) (fun c_15 => ?_)
    · replace h := it_t h c_15
      obtain rfl := sm1 h
      obtain rfl := sm1 hk
      exact K H locs ls hP hD hS (lv_sub hl [1] rfl)
    · replace h := it_f h c_15
      refine lv_aload_n hx hb dX10_gapBits_53 rfl (lv_at hl 0 rfl) ?_
      refine lv_iload hx hb dX10_gapBits_54 (lv_at hl 2 rfl) ?_
      refine lv_iconst (v := 0) hx hb dX10_gapBits_56 (by decide) ?_
      obtain ⟨r_16, hf_17, h⟩ := bd_ok h
      refine ck_Vd (rest := []) (wn := [(q_t, .inr (9, [.ref q_t_z, .ref q_t_old, .ref q_t_past, .int t_states, .ref q_t_kept, .int t_isKept, .ref q_t_text, .int t_length, .ref q_t_order, .ref q_t_told, .int t_spot, .int t_toldRows, .ref q_t_rowsTaken, .ref q_t_columnsTaken, .ref q_t_ways, .ref q_t_scaled, .ref q_t_rowFactors, .ref q_t_columnFactors, .ref q_t_rest, .ref q_t_diagonals, .ref q_t_weights])), (q_t_z, .inl (G.2 0, 50, .inl t_z)), (q_t_scaled, .inl (G.2 2, 49, .inr (.inr (.inr (.inl t_scaled))))), (q_t_rowFactors, .inl (G.2 2, 7, .inr (.inr (.inr (.inl t_rowFactors))))), (q_t_columnFactors, .inl (G.2 2, 7, .inr (.inr (.inr (.inl t_columnFactors)))))]) ⟨hx, hb, hml, hown, hts⟩ hK hP hD hS hA [0, 1, 2] [3, 4] [2, 3, 4, 0, 1] (c_X10_scaledSum l G q_t q_t_z q_t_old q_t_past q_t_kept q_t_text q_t_order q_t_told q_t_rowsTaken q_t_columnsTaken q_t_ways q_t_scaled q_t_rowFactors q_t_columnFactors q_t_rest q_t_diagonals q_t_weights _ t_states t_isKept t_length t_spot t_toldRows t_z t_scaled x4 (0 : Int32) _ hf_17) (cwV 2 hts gX10_gapBits_X10_scaledSum rfl rfl rfl (by decide +kernel) ⟨Nat.le_of_ble_eq_true rfl, Nat.le_of_ble_eq_true rfl⟩) rfl rfl rfl rfl rfl rfl (by decide) rfl rfl rfl hl.1 rfl (Nat.le_of_ble_eq_true rfl) dX10_gapBits_57 ⟨Nat.zero_le _, Nat.zero_le _⟩ (fun H locs hP hD hS => ?_)
      refine lv_dconst1 hx hb dX10_gapBits_60 ?_
      obtain ⟨g_18, h⟩ := gd_ok h
      refine lv_dsub hx hb dX10_gapBits_61 g_18 ?_
      refine lv_topd (fun x5_19 ex5_19 => ?_)
      replace h := pl_v h ex5_19
      refine lv_dstore (lv' := [(5, .double x5_19), (0, .ref q_t), (2, .double x2), (4, .int x4)]) hx hb dX10_gapBits_62 hl (by decide) rfl (fun ls hl => ?_)
      refine lv_dload hx hb dX10_gapBits_64 (lv_at hl 0 rfl) ?_
      refine lv_dconst0 hx hb dX10_gapBits_66 ?_
      refine lv_dcmp hx hb dX10_gapBits_67 ?_
      obtain ⟨y_21, hr, h⟩ := bd_ok h
      have J : ∀ (H : Heap) (locs : List Loc) (ls : Array Slot), va_P G.1 vwCl [(q_t, .inr (9, [.ref q_t_z, .ref q_t_old, .ref q_t_past, .int t_states, .ref q_t_kept, .int t_isKept, .ref q_t_text, .int t_length, .ref q_t_order, .ref q_t_told, .int t_spot, .int t_toldRows, .ref q_t_rowsTaken, .ref q_t_columnsTaken, .ref q_t_ways, .ref q_t_scaled, .ref q_t_rowFactors, .ref q_t_columnFactors, .ref q_t_rest, .ref q_t_diagonals, .ref q_t_weights])), (q_t_z, .inl (G.2 0, 50, .inl t_z)), (q_t_scaled, .inl (G.2 2, 49, .inr (.inr (.inr (.inl t_scaled))))), (q_t_rowFactors, .inl (G.2 2, 7, .inr (.inr (.inr (.inl t_rowFactors))))), (q_t_columnFactors, .inl (G.2 2, 7, .inr (.inr (.inr (.inl t_columnFactors)))))] H → va_D A0 [(q_t, .inr (9, [.ref q_t_z, .ref q_t_old, .ref q_t_past, .int t_states, .ref q_t_kept, .int t_isKept, .ref q_t_text, .int t_length, .ref q_t_order, .ref q_t_told, .int t_spot, .int t_toldRows, .ref q_t_rowsTaken, .ref q_t_columnsTaken, .ref q_t_ways, .ref q_t_scaled, .ref q_t_rowFactors, .ref q_t_columnFactors, .ref q_t_rest, .ref q_t_diagonals, .ref q_t_weights])), (q_t_z, .inl (G.2 0, 50, .inl t_z)), (q_t_scaled, .inl (G.2 2, 49, .inr (.inr (.inr (.inl t_scaled))))), (q_t_rowFactors, .inl (G.2 2, 7, .inr (.inr (.inr (.inl t_rowFactors))))), (q_t_columnFactors, .inl (G.2 2, 7, .inr (.inr (.inr (.inl t_columnFactors)))))] → va_S A0 H0 H locs → lv_has ls 7 [(0, .ref q_t), (2, .double x2), (4, .int x4)] → W p l e ({ frames := 3, cells := 0, slots := 0, locals := 81 } : Room) s m args below meth c H locs 0 0 Q (F0 m 79 ls [.double y_21]) := by
        intro H locs ls hP hD hS hl
        refine lv_dstore (lv' := [(5, .double y_21), (0, .ref q_t), (2, .double x2), (4, .int x4)]) hx hb dX10_gapBits_79 hl (by decide) rfl (fun ls hl => ?_)
        refine lv_dload hx hb dX10_gapBits_81 (lv_at hl 0 rfl) ?_
        refine lv_dload_n hx hb dX10_gapBits_83 rfl (lv_at hl 2 rfl) ?_
        refine lv_dcmp hx hb dX10_gapBits_84 ?_
        refine lv_if_le (tgt := 93) hx hb dX10_gapBits_85 (by decide) (fun c_22 => ?_) (fun c_22 => ?_)
        · replace h := it_t h c_22
          refine lv_dload_n hx hb dX10_gapBits_93 rfl (lv_at hl 2 rfl) ?_
          refine lv_dstore_n (lv' := [(2, .double x2), (5, .double y_21), (0, .ref q_t), (4, .int x4)]) hx hb dX10_gapBits_94 rfl hl (by decide) rfl (fun ls hl => ?_)
          obtain ⟨x4_23, ex4_23, h⟩ := pl_ok h
          refine lv_iinc (v := x4_23) (lv' := [(4, .int x4_23), (2, .double x2), (5, .double y_21), (0, .ref q_t)]) hx hb dX10_gapBits_95 hl (k := 3) rfl (by rw [ex4_23]; rfl) (by decide) rfl (fun ls hl => ?_)
          refine lv_goto (tgt := 41) hx hb dX10_gapBits_98 (by decide) ?_
          obtain rfl := sm1 h
          exact ih x2 x4_23 hk H locs ls hP hD hS (lv_sub hl [3, 1, 0] rfl)
        · replace h := it_f h c_22
          refine lv_dload hx hb dX10_gapBits_88 (lv_at hl 0 rfl) ?_
          refine lv_goto (tgt := 94) hx hb dX10_gapBits_90 (by decide) ?_
          refine lv_dstore_n (lv' := [(2, .double y_21), (5, .double y_21), (0, .ref q_t), (4, .int x4)]) hx hb dX10_gapBits_94 rfl hl (by decide) rfl (fun ls hl => ?_)
          obtain ⟨x4_24, ex4_24, h⟩ := pl_ok h
          refine lv_iinc (v := x4_24) (lv' := [(4, .int x4_24), (2, .double y_21), (5, .double y_21), (0, .ref q_t)]) hx hb dX10_gapBits_95 hl (k := 3) rfl (by rw [ex4_24]; rfl) (by decide) rfl (fun ls hl => ?_)
          refine lv_goto (tgt := 41) hx hb dX10_gapBits_98 (by decide) ?_
          obtain rfl := sm1 h
          exact ih y_21 x4_24 hk H locs ls hP hD hS (lv_sub hl [3, 1, 0] rfl)
      replace h := hr
      clear hr
      refine lv_if_ge (tgt := 77) hx hb dX10_gapBits_68 (by decide) (fun c_20 => ?_) (fun c_20 => ?_)
      · replace h := it_t h c_20
        refine lv_dload hx hb dX10_gapBits_77 (lv_at hl 0 rfl) ?_
        obtain rfl := sm1 h
        exact J H locs ls hP hD hS (lv_sub hl [1, 2, 3] rfl)
      · replace h := it_f h c_20
        refine lv_dload hx hb dX10_gapBits_71 (lv_at hl 0 rfl) ?_
        refine lv_dneg hx hb dX10_gapBits_73 ?_
        refine lv_goto (tgt := 79) hx hb dX10_gapBits_74 (by decide) ?_
        obtain rfl := sm1 h
        exact J H locs ls hP hD hS (lv_sub hl [1, 2, 3] rfl)
set_option maxHeartbeats 4000000 in
set_option maxRecDepth 100000 in
theorem k_X10_gapBits {p : Program} {l : Launch} {e : Env} {s : State} {m : MethodId} {args : Array Value} {below : List Frame} {meth : Method} {c : Code} {Q : State → Prop} {A0 : Nat → Prop} {H0 : Heap} (C : CallFix p m c cX10_gapBits 7 s args wsX10_gapBits RX10) (G : GT) (hK : gK G s) (hA : ∀ q : Nat, H0.size ≤ q → A0 q) (q_t q_t_z q_t_old q_t_past q_t_kept q_t_text q_t_order q_t_told q_t_rowsTaken q_t_columnsTaken q_t_ways q_t_scaled q_t_rowFactors q_t_columnFactors q_t_rest q_t_diagonals q_t_weights : Nat) (t_states : Int32) (t_isKept : Int32) (t_length : Int32) (t_spot : Int32) (t_toldRows : Int32) (t_z : Nat → Int32) (t_scaled : Nat → UInt64) (t_rowFactors : Nat → UInt64) (t_columnFactors : Nat → UInt64) (a1 : Int32) (r : Int64) (o_t_scaled : Nat → UInt64) (o_t_rowFactors : Nat → UInt64) (o_t_columnFactors : Nat → UInt64) (h : f_X10_gapBits t_z t_scaled t_rowFactors t_columnFactors a1 = some (r, o_t_scaled, o_t_rowFactors, o_t_columnFactors)) (KR : ∀ (H : Heap) (locs : List Loc) (ls : Array Slot) (pc : Nat), decode cX10_gapBits pc = .ok (.lreturn, 1) → va_P G.1 vwCl [(q_t, .inr (9, [.ref q_t_z, .ref q_t_old, .ref q_t_past, .int t_states, .ref q_t_kept, .int t_isKept, .ref q_t_text, .int t_length, .ref q_t_order, .ref q_t_told, .int t_spot, .int t_toldRows, .ref q_t_rowsTaken, .ref q_t_columnsTaken, .ref q_t_ways, .ref q_t_scaled, .ref q_t_rowFactors, .ref q_t_columnFactors, .ref q_t_rest, .ref q_t_diagonals, .ref q_t_weights])), (q_t_z, .inl (G.2 0, 50, .inl t_z)), (q_t_scaled, .inl (G.2 2, 49, .inr (.inr (.inr (.inl o_t_scaled))))), (q_t_rowFactors, .inl (G.2 2, 7, .inr (.inr (.inr (.inl o_t_rowFactors))))), (q_t_columnFactors, .inl (G.2 2, 7, .inr (.inr (.inr (.inl o_t_columnFactors)))))] H → va_D A0 [(q_t, .inr (9, [.ref q_t_z, .ref q_t_old, .ref q_t_past, .int t_states, .ref q_t_kept, .int t_isKept, .ref q_t_text, .int t_length, .ref q_t_order, .ref q_t_told, .int t_spot, .int t_toldRows, .ref q_t_rowsTaken, .ref q_t_columnsTaken, .ref q_t_ways, .ref q_t_scaled, .ref q_t_rowFactors, .ref q_t_columnFactors, .ref q_t_rest, .ref q_t_diagonals, .ref q_t_weights])), (q_t_z, .inl (G.2 0, 50, .inl t_z)), (q_t_scaled, .inl (G.2 2, 49, .inr (.inr (.inr (.inl o_t_scaled))))), (q_t_rowFactors, .inl (G.2 2, 7, .inr (.inr (.inr (.inl o_t_rowFactors))))), (q_t_columnFactors, .inl (G.2 2, 7, .inr (.inr (.inr (.inl o_t_columnFactors)))))] → va_S A0 H0 H locs → W p l e ({ frames := 3, cells := 0, slots := 0, locals := 81 } : Room) s m args below meth c H locs 0 0 Q (F0 m pc ls [.long r])) : ∀ (H : Heap) (locs : List Loc) (ls : Array Slot), va_P G.1 vwCl [(q_t, .inr (9, [.ref q_t_z, .ref q_t_old, .ref q_t_past, .int t_states, .ref q_t_kept, .int t_isKept, .ref q_t_text, .int t_length, .ref q_t_order, .ref q_t_told, .int t_spot, .int t_toldRows, .ref q_t_rowsTaken, .ref q_t_columnsTaken, .ref q_t_ways, .ref q_t_scaled, .ref q_t_rowFactors, .ref q_t_columnFactors, .ref q_t_rest, .ref q_t_diagonals, .ref q_t_weights])), (q_t_z, .inl (G.2 0, 50, .inl t_z)), (q_t_scaled, .inl (G.2 2, 49, .inr (.inr (.inr (.inl t_scaled))))), (q_t_rowFactors, .inl (G.2 2, 7, .inr (.inr (.inr (.inl t_rowFactors))))), (q_t_columnFactors, .inl (G.2 2, 7, .inr (.inr (.inr (.inl t_columnFactors)))))] H → va_D A0 [(q_t, .inr (9, [.ref q_t_z, .ref q_t_old, .ref q_t_past, .int t_states, .ref q_t_kept, .int t_isKept, .ref q_t_text, .int t_length, .ref q_t_order, .ref q_t_told, .int t_spot, .int t_toldRows, .ref q_t_rowsTaken, .ref q_t_columnsTaken, .ref q_t_ways, .ref q_t_scaled, .ref q_t_rowFactors, .ref q_t_columnFactors, .ref q_t_rest, .ref q_t_diagonals, .ref q_t_weights])), (q_t_z, .inl (G.2 0, 50, .inl t_z)), (q_t_scaled, .inl (G.2 2, 49, .inr (.inr (.inr (.inl t_scaled))))), (q_t_rowFactors, .inl (G.2 2, 7, .inr (.inr (.inr (.inl t_rowFactors))))), (q_t_columnFactors, .inl (G.2 2, 7, .inr (.inr (.inr (.inl t_columnFactors)))))] → va_S A0 H0 H locs → lv_has ls 7 [(0, .ref q_t), (1, .int a1)] → W p l e ({ frames := 3, cells := 0, slots := 0, locals := 81 } : Room) s m args below meth c H locs 0 0 Q (F0 m 0 ls []) := by
  obtain ⟨hx, hb, hml, hown, hts⟩ := C
  intro H locs ls hP hD hS hl
  rw [f_X10_gapBits] at h
  refine lv_iload_n hx hb dX10_gapBits_0 rfl (lv_at hl 1 rfl) ?_
  obtain ⟨r_1, hf_2, h⟩ := bd_ok h
  refine ck_Si (rest := []) (wn := [(q_t, .inr (9, [.ref q_t_z, .ref q_t_old, .ref q_t_past, .int t_states, .ref q_t_kept, .int t_isKept, .ref q_t_text, .int t_length, .ref q_t_order, .ref q_t_told, .int t_spot, .int t_toldRows, .ref q_t_rowsTaken, .ref q_t_columnsTaken, .ref q_t_ways, .ref q_t_scaled, .ref q_t_rowFactors, .ref q_t_columnFactors, .ref q_t_rest, .ref q_t_diagonals, .ref q_t_weights])), (q_t_z, .inl (G.2 0, 50, .inl t_z)), (q_t_scaled, .inl (G.2 2, 49, .inr (.inr (.inr (.inl t_scaled))))), (q_t_rowFactors, .inl (G.2 2, 7, .inr (.inr (.inr (.inl t_rowFactors))))), (q_t_columnFactors, .inl (G.2 2, 7, .inr (.inr (.inr (.inl t_columnFactors)))))]) ⟨hx, hb, hml, hown, hts⟩ hK hP hD hS hA [] [0, 1, 2, 3, 4] [0, 1, 2, 3, 4] (c_X10_isSweeps l G _ a1 _ hf_2) (cwS 1 hts gX10_gapBits_X10_isSweeps rfl rfl rfl (by decide +kernel) ⟨Nat.le_of_ble_eq_true rfl, Nat.le_of_ble_eq_true rfl⟩) rfl rfl rfl rfl (by decide) rfl rfl rfl hl.1 rfl (Nat.le_of_ble_eq_true rfl) dX10_gapBits_1 ⟨Nat.zero_le _, Nat.zero_le _⟩ (fun H locs hP hD hS => ?_)
  refine lv_if_eq (tgt := 14) hx hb dX10_gapBits_4 (by decide) (fun c_3 => ?_) (fun c_3 => ?_)
  · replace h := it_t h c_3
    refine lv_iload_n hx hb dX10_gapBits_14 rfl (lv_at hl 1 rfl) ?_
    obtain ⟨r_4, hf_5, h⟩ := bd_ok h
    refine ck_Si (rest := []) (wn := [(q_t, .inr (9, [.ref q_t_z, .ref q_t_old, .ref q_t_past, .int t_states, .ref q_t_kept, .int t_isKept, .ref q_t_text, .int t_length, .ref q_t_order, .ref q_t_told, .int t_spot, .int t_toldRows, .ref q_t_rowsTaken, .ref q_t_columnsTaken, .ref q_t_ways, .ref q_t_scaled, .ref q_t_rowFactors, .ref q_t_columnFactors, .ref q_t_rest, .ref q_t_diagonals, .ref q_t_weights])), (q_t_z, .inl (G.2 0, 50, .inl t_z)), (q_t_scaled, .inl (G.2 2, 49, .inr (.inr (.inr (.inl t_scaled))))), (q_t_rowFactors, .inl (G.2 2, 7, .inr (.inr (.inr (.inl t_rowFactors))))), (q_t_columnFactors, .inl (G.2 2, 7, .inr (.inr (.inr (.inl t_columnFactors)))))]) ⟨hx, hb, hml, hown, hts⟩ hK hP hD hS hA [] [0, 1, 2, 3, 4] [0, 1, 2, 3, 4] (c_X10_isSweeps l G _ a1 _ hf_5) (cwS 1 hts gX10_gapBits_X10_isSweeps rfl rfl rfl (by decide +kernel) ⟨Nat.le_of_ble_eq_true rfl, Nat.le_of_ble_eq_true rfl⟩) rfl rfl rfl rfl (by decide) rfl rfl rfl hl.1 rfl (Nat.le_of_ble_eq_true rfl) dX10_gapBits_15 ⟨Nat.zero_le _, Nat.zero_le _⟩ (fun H locs hP hD hS => ?_)
    refine lv_if_eq (tgt := 27) hx hb dX10_gapBits_18 (by decide) (fun c_6 => ?_) (fun c_6 => ?_)
    · replace h := it_t h c_6
      refine lv_ldc2 (v := -9000000000000000002) hx hb hown (hts _ wd_X10_gapBits_2) dX10_gapBits_27 ?_
      obtain ⟨rfl, rfl, rfl, rfl⟩ := sm4 h
      exact KR H locs ls 30 dX10_gapBits_30 hP hD hS
    · replace h := it_f h c_6
      refine lv_ldc2 (v := -9000000000000000004) hx hb hown (hts _ wd_X10_gapBits_1) dX10_gapBits_21 ?_
      refine lv_goto (tgt := 30) hx hb dX10_gapBits_24 (by decide) ?_
      obtain ⟨rfl, rfl, rfl, rfl⟩ := sm4 h
      exact KR H locs ls 30 dX10_gapBits_30 hP hD hS
  · replace h := it_f h c_3
    refine lv_aload_n hx hb dX10_gapBits_7 rfl (lv_at hl 0 rfl) ?_
    obtain ⟨r_7, hf_8, h⟩ := bd_ok h
    refine ck_Vi (rest := []) (wn := [(q_t, .inr (9, [.ref q_t_z, .ref q_t_old, .ref q_t_past, .int t_states, .ref q_t_kept, .int t_isKept, .ref q_t_text, .int t_length, .ref q_t_order, .ref q_t_told, .int t_spot, .int t_toldRows, .ref q_t_rowsTaken, .ref q_t_columnsTaken, .ref q_t_ways, .ref q_t_scaled, .ref q_t_rowFactors, .ref q_t_columnFactors, .ref q_t_rest, .ref q_t_diagonals, .ref q_t_weights])), (q_t_z, .inl (G.2 0, 50, .inl t_z)), (q_t_scaled, .inl (G.2 2, 49, .inr (.inr (.inr (.inl t_scaled))))), (q_t_rowFactors, .inl (G.2 2, 7, .inr (.inr (.inr (.inl t_rowFactors))))), (q_t_columnFactors, .inl (G.2 2, 7, .inr (.inr (.inr (.inl t_columnFactors)))))]) ⟨hx, hb, hml, hown, hts⟩ hK hP hD hS hA [0, 1] [2, 3, 4] [3, 4, 0, 1, 2] (c_X10_canScale l G q_t q_t_z q_t_old q_t_past q_t_kept q_t_text q_t_order q_t_told q_t_rowsTaken q_t_columnsTaken q_t_ways q_t_scaled q_t_rowFactors q_t_columnFactors q_t_rest q_t_diagonals q_t_weights _ t_states t_isKept t_length t_spot t_toldRows t_z _ hf_8) (cwV 0 hts gX10_gapBits_X10_canScale rfl rfl rfl (by decide +kernel) ⟨Nat.le_of_ble_eq_true rfl, Nat.le_of_ble_eq_true rfl⟩) rfl rfl rfl rfl rfl rfl (by decide) rfl rfl rfl hl.1 rfl (Nat.le_of_ble_eq_true rfl) dX10_gapBits_8 ⟨Nat.zero_le _, Nat.zero_le _⟩ (fun H locs hP hD hS => ?_)
    refine lv_if_ne (tgt := 31) hx hb dX10_gapBits_11 (by decide) (fun c_9 => ?_) (fun c_9 => ?_)
    · replace h := it_f h c_9
      refine lv_aload_n hx hb dX10_gapBits_31 rfl (lv_at hl 0 rfl) ?_
      refine lv_iload_n hx hb dX10_gapBits_32 rfl (lv_at hl 1 rfl) ?_
      obtain ⟨⟨t_scaled_10, t_rowFactors_11, t_columnFactors_12⟩, hf_13, h⟩ := bd_ok h
      refine ck_Vv (rest := []) (wn := [(q_t, .inr (9, [.ref q_t_z, .ref q_t_old, .ref q_t_past, .int t_states, .ref q_t_kept, .int t_isKept, .ref q_t_text, .int t_length, .ref q_t_order, .ref q_t_told, .int t_spot, .int t_toldRows, .ref q_t_rowsTaken, .ref q_t_columnsTaken, .ref q_t_ways, .ref q_t_scaled, .ref q_t_rowFactors, .ref q_t_columnFactors, .ref q_t_rest, .ref q_t_diagonals, .ref q_t_weights])), (q_t_z, .inl (G.2 0, 50, .inl t_z)), (q_t_scaled, .inl (G.2 2, 49, .inr (.inr (.inr (.inl t_scaled_10))))), (q_t_rowFactors, .inl (G.2 2, 7, .inr (.inr (.inr (.inl t_rowFactors_11))))), (q_t_columnFactors, .inl (G.2 2, 7, .inr (.inr (.inr (.inl t_columnFactors_12)))))]) ⟨hx, hb, hml, hown, hts⟩ hK hP hD hS hA [0, 1, 2, 3, 4] [] [0, 1, 2, 3, 4] (c_X10_sweep l G q_t q_t_z q_t_old q_t_past q_t_kept q_t_text q_t_order q_t_told q_t_rowsTaken q_t_columnsTaken q_t_ways q_t_scaled q_t_rowFactors q_t_columnFactors q_t_rest q_t_diagonals q_t_weights _ t_states t_isKept t_length t_spot t_toldRows t_z t_scaled t_rowFactors t_columnFactors a1 _ _ _ hf_13) (cwV 1 hts gX10_gapBits_X10_sweep rfl rfl rfl (by decide +kernel) ⟨Nat.le_of_ble_eq_true rfl, Nat.le_of_ble_eq_true rfl⟩) rfl rfl rfl rfl rfl rfl (by decide) rfl rfl rfl hl.1 rfl (Nat.le_of_ble_eq_true rfl) dX10_gapBits_33 ⟨Nat.zero_le _, Nat.zero_le _⟩ (fun H locs hP hD hS => ?_)
      refine lv_dconst0 hx hb dX10_gapBits_36 ?_
      refine lv_dstore_n (lv' := [(2, .double FP.dconst0), (0, .ref q_t), (1, .int a1)]) hx hb dX10_gapBits_37 rfl hl (by decide) rfl (fun ls hl => ?_)
      refine lv_iconst (v := 0) hx hb dX10_gapBits_38 (by decide) ?_
      refine lv_istore (lv' := [(4, .int (0 : Int32)), (2, .double FP.dconst0), (0, .ref q_t), (1, .int a1)]) hx hb dX10_gapBits_39 hl (by decide) rfl (fun ls hl => ?_)
      obtain ⟨x2_25, hz_27, h⟩ := bd_ok h
      refine l_X10_gapBits_1 ⟨hx, hb, hml, hown, hts⟩ G hK hA q_t q_t_z q_t_old q_t_past q_t_kept q_t_text q_t_order q_t_told q_t_rowsTaken q_t_columnsTaken q_t_ways q_t_scaled q_t_rowFactors q_t_columnFactors q_t_rest q_t_diagonals q_t_weights t_states t_isKept t_length t_spot t_toldRows t_z t_scaled_10 t_rowFactors_11 t_columnFactors_12 x2_25 ?_ FU FP.dconst0 (0 : Int32) hz_27 H locs ls hP hD hS (lv_sub hl [2, 1, 0] rfl)
      intro H locs ls hP hD hS hl
      refine lv_dload_n hx hb dX10_gapBits_101 rfl (lv_at hl 0 rfl) ?_
      obtain ⟨r_28, hf_29, h⟩ := bd_ok h
      refine ck_Sl (rest := []) (wn := [(q_t, .inr (9, [.ref q_t_z, .ref q_t_old, .ref q_t_past, .int t_states, .ref q_t_kept, .int t_isKept, .ref q_t_text, .int t_length, .ref q_t_order, .ref q_t_told, .int t_spot, .int t_toldRows, .ref q_t_rowsTaken, .ref q_t_columnsTaken, .ref q_t_ways, .ref q_t_scaled, .ref q_t_rowFactors, .ref q_t_columnFactors, .ref q_t_rest, .ref q_t_diagonals, .ref q_t_weights])), (q_t_z, .inl (G.2 0, 50, .inl t_z)), (q_t_scaled, .inl (G.2 2, 49, .inr (.inr (.inr (.inl t_scaled_10))))), (q_t_rowFactors, .inl (G.2 2, 7, .inr (.inr (.inr (.inl t_rowFactors_11))))), (q_t_columnFactors, .inl (G.2 2, 7, .inr (.inr (.inr (.inl t_columnFactors_12)))))]) ⟨hx, hb, hml, hown, hts⟩ hK hP hD hS hA [] [0, 1, 2, 3, 4] [0, 1, 2, 3, 4] (c_Jxe99ae_doubleToLongBits_ccdee l G _ x2_25 _ hf_29) (va_cwS 1 hts gX10_gapBits_Jxe99ae_doubleToLongBits_ccdee rfl rfl rfl (by decide +kernel) ⟨Nat.le_of_ble_eq_true rfl, Nat.le_of_ble_eq_true rfl⟩) rfl rfl rfl rfl (by decide) rfl rfl rfl hl.1 rfl (Nat.le_of_ble_eq_true rfl) dX10_gapBits_102 ⟨Nat.zero_le _, Nat.zero_le _⟩ (fun H locs hP hD hS => ?_)
      obtain ⟨rfl, rfl, rfl, rfl⟩ := sm4 h
      exact KR H locs ls 105 dX10_gapBits_105 hP hD hS
    · replace h := it_t h c_9
      refine lv_iload_n hx hb dX10_gapBits_14 rfl (lv_at hl 1 rfl) ?_
      obtain ⟨r_30, hf_31, h⟩ := bd_ok h
      refine ck_Si (rest := []) (wn := [(q_t, .inr (9, [.ref q_t_z, .ref q_t_old, .ref q_t_past, .int t_states, .ref q_t_kept, .int t_isKept, .ref q_t_text, .int t_length, .ref q_t_order, .ref q_t_told, .int t_spot, .int t_toldRows, .ref q_t_rowsTaken, .ref q_t_columnsTaken, .ref q_t_ways, .ref q_t_scaled, .ref q_t_rowFactors, .ref q_t_columnFactors, .ref q_t_rest, .ref q_t_diagonals, .ref q_t_weights])), (q_t_z, .inl (G.2 0, 50, .inl t_z)), (q_t_scaled, .inl (G.2 2, 49, .inr (.inr (.inr (.inl t_scaled))))), (q_t_rowFactors, .inl (G.2 2, 7, .inr (.inr (.inr (.inl t_rowFactors))))), (q_t_columnFactors, .inl (G.2 2, 7, .inr (.inr (.inr (.inl t_columnFactors)))))]) ⟨hx, hb, hml, hown, hts⟩ hK hP hD hS hA [] [0, 1, 2, 3, 4] [0, 1, 2, 3, 4] (c_X10_isSweeps l G _ a1 _ hf_31) (cwS 1 hts gX10_gapBits_X10_isSweeps rfl rfl rfl (by decide +kernel) ⟨Nat.le_of_ble_eq_true rfl, Nat.le_of_ble_eq_true rfl⟩) rfl rfl rfl rfl (by decide) rfl rfl rfl hl.1 rfl (Nat.le_of_ble_eq_true rfl) dX10_gapBits_15 ⟨Nat.zero_le _, Nat.zero_le _⟩ (fun H locs hP hD hS => ?_)
      refine lv_if_eq (tgt := 27) hx hb dX10_gapBits_18 (by decide) (fun c_32 => ?_) (fun c_32 => ?_)
      · replace h := it_t h c_32
        refine lv_ldc2 (v := -9000000000000000002) hx hb hown (hts _ wd_X10_gapBits_2) dX10_gapBits_27 ?_
        obtain ⟨rfl, rfl, rfl, rfl⟩ := sm4 h
        exact KR H locs ls 30 dX10_gapBits_30 hP hD hS
      · replace h := it_f h c_32
        refine lv_ldc2 (v := -9000000000000000004) hx hb hown (hts _ wd_X10_gapBits_1) dX10_gapBits_21 ?_
        refine lv_goto (tgt := 30) hx hb dX10_gapBits_24 (by decide) ?_
        obtain ⟨rfl, rfl, rfl, rfl⟩ := sm4 h
        exact KR H locs ls 30 dX10_gapBits_30 hP hD hS
set_option maxHeartbeats 4000000 in
set_option maxRecDepth 100000 in
theorem c_X10_gapBits (l : Launch) (G : GT) (q_t q_t_z q_t_old q_t_past q_t_kept q_t_text q_t_order q_t_told q_t_rowsTaken q_t_columnsTaken q_t_ways q_t_scaled q_t_rowFactors q_t_columnFactors q_t_rest q_t_diagonals q_t_weights : Nat) (sz : Nat) (t_states : Int32) (t_isKept : Int32) (t_length : Int32) (t_spot : Int32) (t_toldRows : Int32) (t_z : Nat → Int32) (t_scaled : Nat → UInt64) (t_rowFactors : Nat → UInt64) (t_columnFactors : Nat → UInt64) (a1 : Int32) (r : Int64) (o_t_scaled : Nat → UInt64) (o_t_rowFactors : Nat → UInt64) (o_t_columnFactors : Nat → UInt64) (h : f_X10_gapBits t_z t_scaled t_rowFactors t_columnFactors a1 = some (r, o_t_scaled, o_t_rowFactors, o_t_columnFactors)) : Met l yX10_gapBits wsX10_gapBits ({ frames := 3, cells := 0, slots := 0, locals := 81 } : Room) (va_Pc [.ref q_t, .int a1] (pcW G [(q_t, .inr (9, [.ref q_t_z, .ref q_t_old, .ref q_t_past, .int t_states, .ref q_t_kept, .int t_isKept, .ref q_t_text, .int t_length, .ref q_t_order, .ref q_t_told, .int t_spot, .int t_toldRows, .ref q_t_rowsTaken, .ref q_t_columnsTaken, .ref q_t_ways, .ref q_t_scaled, .ref q_t_rowFactors, .ref q_t_columnFactors, .ref q_t_rest, .ref q_t_diagonals, .ref q_t_weights])), (q_t_z, .inl (G.2 0, 50, .inl t_z)), (q_t_scaled, .inl (G.2 2, 49, .inr (.inr (.inr (.inl t_scaled))))), (q_t_rowFactors, .inl (G.2 2, 7, .inr (.inr (.inr (.inl t_rowFactors))))), (q_t_columnFactors, .inl (G.2 2, 7, .inr (.inr (.inr (.inl t_columnFactors)))))] sz)) (va_Ql (fun r9 (_ : Unit) => r9 = r) (fun _ t => atW G (va_A [(q_t, .inr (9, [.ref q_t_z, .ref q_t_old, .ref q_t_past, .int t_states, .ref q_t_kept, .int t_isKept, .ref q_t_text, .int t_length, .ref q_t_order, .ref q_t_told, .int t_spot, .int t_toldRows, .ref q_t_rowsTaken, .ref q_t_columnsTaken, .ref q_t_ways, .ref q_t_scaled, .ref q_t_rowFactors, .ref q_t_columnFactors, .ref q_t_rest, .ref q_t_diagonals, .ref q_t_weights])), (q_t_z, .inl (G.2 0, 50, .inl t_z)), (q_t_scaled, .inl (G.2 2, 49, .inr (.inr (.inr (.inl t_scaled))))), (q_t_rowFactors, .inl (G.2 2, 7, .inr (.inr (.inr (.inl t_rowFactors))))), (q_t_columnFactors, .inl (G.2 2, 7, .inr (.inr (.inr (.inl t_columnFactors)))))] sz) [(q_t, .inr (9, [.ref q_t_z, .ref q_t_old, .ref q_t_past, .int t_states, .ref q_t_kept, .int t_isKept, .ref q_t_text, .int t_length, .ref q_t_order, .ref q_t_told, .int t_spot, .int t_toldRows, .ref q_t_rowsTaken, .ref q_t_columnsTaken, .ref q_t_ways, .ref q_t_scaled, .ref q_t_rowFactors, .ref q_t_columnFactors, .ref q_t_rest, .ref q_t_diagonals, .ref q_t_weights])), (q_t_z, .inl (G.2 0, 50, .inl t_z)), (q_t_scaled, .inl (G.2 2, 49, .inr (.inr (.inr (.inl o_t_scaled))))), (q_t_rowFactors, .inl (G.2 2, 7, .inr (.inr (.inr (.inl o_t_rowFactors))))), (q_t_columnFactors, .inl (G.2 2, 7, .inr (.inr (.inr (.inl o_t_columnFactors)))))] t) (va_A [(q_t, .inr (9, [.ref q_t_z, .ref q_t_old, .ref q_t_past, .int t_states, .ref q_t_kept, .int t_isKept, .ref q_t_text, .int t_length, .ref q_t_order, .ref q_t_told, .int t_spot, .int t_toldRows, .ref q_t_rowsTaken, .ref q_t_columnsTaken, .ref q_t_ways, .ref q_t_scaled, .ref q_t_rowFactors, .ref q_t_columnFactors, .ref q_t_rest, .ref q_t_diagonals, .ref q_t_weights])), (q_t_z, .inl (G.2 0, 50, .inl t_z)), (q_t_scaled, .inl (G.2 2, 49, .inr (.inr (.inr (.inl t_scaled))))), (q_t_rowFactors, .inl (G.2 2, 7, .inr (.inr (.inr (.inl t_rowFactors))))), (q_t_columnFactors, .inl (G.2 2, 7, .inr (.inr (.inr (.inl t_columnFactors)))))] sz)) 0 0 (va_A [(q_t, .inr (9, [.ref q_t_z, .ref q_t_old, .ref q_t_past, .int t_states, .ref q_t_kept, .int t_isKept, .ref q_t_text, .int t_length, .ref q_t_order, .ref q_t_told, .int t_spot, .int t_toldRows, .ref q_t_rowsTaken, .ref q_t_columnsTaken, .ref q_t_ways, .ref q_t_scaled, .ref q_t_rowFactors, .ref q_t_columnFactors, .ref q_t_rest, .ref q_t_diagonals, .ref q_t_weights])), (q_t_z, .inl (G.2 0, 50, .inl t_z)), (q_t_scaled, .inl (G.2 2, 49, .inr (.inr (.inr (.inl t_scaled))))), (q_t_rowFactors, .inl (G.2 2, 7, .inr (.inr (.inr (.inl t_rowFactors))))), (q_t_columnFactors, .inl (G.2 2, 7, .inr (.inr (.inr (.inl t_columnFactors)))))] sz) := by
  refine Met.ofW (cc := cX10_gapBits) (maxL := 7) (ret := (some .long)) (by decide) rfl ?_
  intro p e s m args below meth c s₁ B hml hv
  obtain ⟨rfl, hsz, hP, hK, hD0⟩ := hv
  subst hsz
  have hD := hD0.self (sz := s.heap.size)
  generalize hAe : va_A [(q_t, .inr (9, [.ref q_t_z, .ref q_t_old, .ref q_t_past, .int t_states, .ref q_t_kept, .int t_isKept, .ref q_t_text, .int t_length, .ref q_t_order, .ref q_t_told, .int t_spot, .int t_toldRows, .ref q_t_rowsTaken, .ref q_t_columnsTaken, .ref q_t_ways, .ref q_t_scaled, .ref q_t_rowFactors, .ref q_t_columnFactors, .ref q_t_rest, .ref q_t_diagonals, .ref q_t_weights])), (q_t_z, .inl (G.2 0, 50, .inl t_z)), (q_t_scaled, .inl (G.2 2, 49, .inr (.inr (.inr (.inl t_scaled))))), (q_t_rowFactors, .inl (G.2 2, 7, .inr (.inr (.inr (.inl t_rowFactors))))), (q_t_columnFactors, .inl (G.2 2, 7, .inr (.inr (.inr (.inl t_columnFactors)))))] s.heap.size = A at hD ⊢
  have hA : ∀ q : Nat, s.heap.size ≤ q → A q := fun q h => by rw [← hAe]; exact Or.inr h
  have hl := lv_entry ([.ref q_t, .int a1]) (n := 7) (Nat.le_of_ble_eq_true rfl)
  rw [lg_entry_eq]
  refine k_X10_gapBits ⟨B.exec, B.bytes, hml, findClass_of_methodNamed B.named, atoms_spec (ws := wsX10_gapBits) B.pre⟩ G hK hA q_t q_t_z q_t_old q_t_past q_t_kept q_t_text q_t_order q_t_told q_t_rowsTaken q_t_columnsTaken q_t_ways q_t_scaled q_t_rowFactors q_t_columnFactors q_t_rest q_t_diagonals q_t_weights _ _ _ _ _ _ _ _ _ _ _ _ _ _ h ?_ _ _ _ hP hD va_S.rf hl
  intro H locs ls pc hd hP hD hS
  exact W.lret B.exec B.bytes B.returns (fun t ht hW => ⟨⟨r, (), rfl, rfl, by rw [ht]; exact hP, hD⟩, hS.F ht⟩) hS.2.2 hd B.notSynchronized
set_option maxRecDepth 20000 in
theorem wd_X10_boundBits_2 : Cond.constantLong RX10 189 (-9000000000000000002) ∈ wsX10_boundBits := List.mem_of_getElem? (i := 2) (by decide +kernel)
set_option maxRecDepth 20000 in
theorem wd_X10_boundBits_1 : Cond.constantLong RX10 183 (-9000000000000000004) ∈ wsX10_boundBits := List.mem_of_getElem? (i := 1) (by decide +kernel)
set_option maxRecDepth 20000 in
theorem wd_X10_boundBits_3 : Cond.fieldLink RX10 7 "PermanentDeskModel" "z" "[I" ∈ wsX10_boundBits := List.mem_of_getElem? (i := 3) (by decide +kernel)
set_option maxRecDepth 20000 in
theorem wi_X10_boundBits_X10 : ∀ w ∈ u_ws RX10 TX10 21, w ∈ wsX10_boundBits := by decide +kernel
set_option maxRecDepth 20000 in
theorem wd_X10_boundBits_4 : Cond.fieldLink RX10 44 "PermanentDeskModel" "rowFactors" "[D" ∈ wsX10_boundBits := List.mem_of_getElem? (i := 4) (by decide +kernel)
set_option maxRecDepth 20000 in
theorem wd_X10_boundBits_5 : Cond.fieldLink RX10 47 "PermanentDeskModel" "columnFactors" "[D" ∈ wsX10_boundBits := List.mem_of_getElem? (i := 5) (by decide +kernel)
def f_X10_boundBits_L1 (t_z : Nat → Int32) : (UInt64 × Int32) → Option ((UInt64 × Int32) ⊕ UInt64)
  | (x2, x4) =>
    gd (okI (49 : Int32) 50) (
    if (t_z (49 : Int32).toNatClampNeg) < x4 then
      some (.inr x2)
    else
      gd (okD (FP.dmul x2 (FP.i2d x4))) (
      pl ((FP.dmul x2 (FP.i2d x4)) : UInt64) (fun x2_17 =>
      gd (okI (49 : Int32) 50) (
      gd (okD (FP.ddiv x2_17 (FP.i2d (t_z (49 : Int32).toNatClampNeg)))) (
      pl ((FP.ddiv x2_17 (FP.i2d (t_z (49 : Int32).toNatClampNeg))) : UInt64) (fun x2_20 =>
      pl ((x4 + (1 : Int32)) : Int32) (fun x4_21 =>
      some (.inl (x2_20, x4_21)))))))))
def f_X10_boundBits_L2 (t_z : Nat → Int32) (t_rowFactors : Nat → UInt64) : (UInt64 × Int32) → Option ((UInt64 × Int32) ⊕ UInt64)
  | (x2, x4) =>
    gd (okI (49 : Int32) 50) (
    if (t_z (49 : Int32).toNatClampNeg) ≤ x4 then
      some (.inr x2)
    else
      gd (okI x4 7) (
      gd (okD (FP.dmul x2 (t_rowFactors x4.toNatClampNeg))) (
      pl ((FP.dmul x2 (t_rowFactors x4.toNatClampNeg)) : UInt64) (fun x2_29 =>
      pl ((x4 + (1 : Int32)) : Int32) (fun x4_30 =>
      some (.inl (x2_29, x4_30)))))))
def f_X10_boundBits_L3 (t_z : Nat → Int32) (t_columnFactors : Nat → UInt64) : (UInt64 × Int32) → Option ((UInt64 × Int32) ⊕ UInt64)
  | (x2, x4) =>
    gd (okI (49 : Int32) 50) (
    if (t_z (49 : Int32).toNatClampNeg) ≤ x4 then
      some (.inr x2)
    else
      gd (okI x4 7) (
      gd (okD (FP.dmul x2 (t_columnFactors x4.toNatClampNeg))) (
      pl ((FP.dmul x2 (t_columnFactors x4.toNatClampNeg)) : UInt64) (fun x2_38 =>
      pl ((x4 + (1 : Int32)) : Int32) (fun x4_39 =>
      some (.inl (x2_38, x4_39)))))))
def f_X10_boundBits (t_z : Nat → Int32) (t_scaled : Nat → UInt64) (t_rowFactors : Nat → UInt64) (t_columnFactors : Nat → UInt64) (a1 : Int32) : Option (Int64 × (Nat → UInt64) × (Nat → UInt64) × (Nat → UInt64)) :=
  (f_X10_isSweeps a1).bind (fun r_1 =>
  if r_1 = 0 then
    (f_X10_isSweeps a1).bind (fun r_4 =>
    if r_4 = 0 then
      some ((-9000000000000000002 : Int64), t_scaled, t_rowFactors, t_columnFactors)
    else
      some ((-9000000000000000004 : Int64), t_scaled, t_rowFactors, t_columnFactors))
  else
    (f_X10_canScale t_z).bind (fun r_7 =>
    if r_7 = 0 then
      (f_X10_isSweeps a1).bind (fun r_45 =>
      if r_45 = 0 then
        some ((-9000000000000000002 : Int64), t_scaled, t_rowFactors, t_columnFactors)
      else
        some ((-9000000000000000004 : Int64), t_scaled, t_rowFactors, t_columnFactors))
    else
      (f_X10_sweep t_z t_scaled t_rowFactors t_columnFactors a1).bind (fun (t_scaled_10, t_rowFactors_11, t_columnFactors_12) =>
      (lpN (f_X10_boundBits_L1 t_z) FU (FP.dconst1, (1 : Int32))).bind (fun x2_22 =>
      (lpN (f_X10_boundBits_L2 t_z t_rowFactors_11) FU (x2_22, (0 : Int32))).bind (fun x2_31 =>
      (lpN (f_X10_boundBits_L3 t_z t_columnFactors_12) FU (x2_31, (0 : Int32))).bind (fun x2_40 =>
      (f_Jxe99ae_doubleToLongBits_ccdee x2_40).bind (fun r_43 =>
      some (r_43, t_scaled_10, t_rowFactors_11, t_columnFactors_12))))))))
set_option maxHeartbeats 4000000 in
set_option maxRecDepth 100000 in
theorem l_X10_boundBits_1 {p : Program} {l : Launch} {e : Env} {s : State} {m : MethodId} {args : Array Value} {below : List Frame} {meth : Method} {c : Code} {Q : State → Prop} {A0 : Nat → Prop} {H0 : Heap} (C : CallFix p m c cX10_boundBits 5 s args wsX10_boundBits RX10) (G : GT) (hK : gK G s) (hA : ∀ q : Nat, H0.size ≤ q → A0 q) (q_t q_t_z q_t_old q_t_past q_t_kept q_t_text q_t_order q_t_told q_t_rowsTaken q_t_columnsTaken q_t_ways q_t_scaled q_t_rowFactors q_t_columnFactors q_t_rest q_t_diagonals q_t_weights : Nat) (t_states : Int32) (t_isKept : Int32) (t_length : Int32) (t_spot : Int32) (t_toldRows : Int32) (t_z : Nat → Int32) (t_scaled : Nat → UInt64) (t_rowFactors : Nat → UInt64) (t_columnFactors : Nat → UInt64) (E_x2 : UInt64) (K : ∀ (H : Heap) (locs : List Loc) (ls : Array Slot), va_P G.1 vwCl [(q_t, .inr (9, [.ref q_t_z, .ref q_t_old, .ref q_t_past, .int t_states, .ref q_t_kept, .int t_isKept, .ref q_t_text, .int t_length, .ref q_t_order, .ref q_t_told, .int t_spot, .int t_toldRows, .ref q_t_rowsTaken, .ref q_t_columnsTaken, .ref q_t_ways, .ref q_t_scaled, .ref q_t_rowFactors, .ref q_t_columnFactors, .ref q_t_rest, .ref q_t_diagonals, .ref q_t_weights])), (q_t_z, .inl (G.2 0, 50, .inl t_z)), (q_t_scaled, .inl (G.2 2, 49, .inr (.inr (.inr (.inl t_scaled))))), (q_t_rowFactors, .inl (G.2 2, 7, .inr (.inr (.inr (.inl t_rowFactors))))), (q_t_columnFactors, .inl (G.2 2, 7, .inr (.inr (.inr (.inl t_columnFactors)))))] H → va_D A0 [(q_t, .inr (9, [.ref q_t_z, .ref q_t_old, .ref q_t_past, .int t_states, .ref q_t_kept, .int t_isKept, .ref q_t_text, .int t_length, .ref q_t_order, .ref q_t_told, .int t_spot, .int t_toldRows, .ref q_t_rowsTaken, .ref q_t_columnsTaken, .ref q_t_ways, .ref q_t_scaled, .ref q_t_rowFactors, .ref q_t_columnFactors, .ref q_t_rest, .ref q_t_diagonals, .ref q_t_weights])), (q_t_z, .inl (G.2 0, 50, .inl t_z)), (q_t_scaled, .inl (G.2 2, 49, .inr (.inr (.inr (.inl t_scaled))))), (q_t_rowFactors, .inl (G.2 2, 7, .inr (.inr (.inr (.inl t_rowFactors))))), (q_t_columnFactors, .inl (G.2 2, 7, .inr (.inr (.inr (.inl t_columnFactors)))))] → va_S A0 H0 H locs → lv_has ls 5 [(0, .ref q_t), (2, .double E_x2)] → W p l e ({ frames := 3, cells := 0, slots := 0, locals := 81 } : Room) s m args below meth c H locs 0 0 Q (F0 m 76 ls [])) : ∀ (n : Nat) (x2 : UInt64) (x4 : Int32), lpN (f_X10_boundBits_L1 t_z) n (x2, x4) = some E_x2 → ∀ (H : Heap) (locs : List Loc) (ls : Array Slot), va_P G.1 vwCl [(q_t, .inr (9, [.ref q_t_z, .ref q_t_old, .ref q_t_past, .int t_states, .ref q_t_kept, .int t_isKept, .ref q_t_text, .int t_length, .ref q_t_order, .ref q_t_told, .int t_spot, .int t_toldRows, .ref q_t_rowsTaken, .ref q_t_columnsTaken, .ref q_t_ways, .ref q_t_scaled, .ref q_t_rowFactors, .ref q_t_columnFactors, .ref q_t_rest, .ref q_t_diagonals, .ref q_t_weights])), (q_t_z, .inl (G.2 0, 50, .inl t_z)), (q_t_scaled, .inl (G.2 2, 49, .inr (.inr (.inr (.inl t_scaled))))), (q_t_rowFactors, .inl (G.2 2, 7, .inr (.inr (.inr (.inl t_rowFactors))))), (q_t_columnFactors, .inl (G.2 2, 7, .inr (.inr (.inr (.inl t_columnFactors)))))] H → va_D A0 [(q_t, .inr (9, [.ref q_t_z, .ref q_t_old, .ref q_t_past, .int t_states, .ref q_t_kept, .int t_isKept, .ref q_t_text, .int t_length, .ref q_t_order, .ref q_t_told, .int t_spot, .int t_toldRows, .ref q_t_rowsTaken, .ref q_t_columnsTaken, .ref q_t_ways, .ref q_t_scaled, .ref q_t_rowFactors, .ref q_t_columnFactors, .ref q_t_rest, .ref q_t_diagonals, .ref q_t_weights])), (q_t_z, .inl (G.2 0, 50, .inl t_z)), (q_t_scaled, .inl (G.2 2, 49, .inr (.inr (.inr (.inl t_scaled))))), (q_t_rowFactors, .inl (G.2 2, 7, .inr (.inr (.inr (.inl t_rowFactors))))), (q_t_columnFactors, .inl (G.2 2, 7, .inr (.inr (.inr (.inl t_columnFactors)))))] → va_S A0 H0 H locs → lv_has ls 5 [(0, .ref q_t), (2, .double x2), (4, .int x4)] → W p l e ({ frames := 3, cells := 0, slots := 0, locals := 81 } : Room) s m args below meth c H locs 0 0 Q (F0 m 41 ls []) := by
  obtain ⟨hx, hb, hml, hown, hts⟩ := C
  intro n
  induction n with
  | zero => intro x2 x4 h; exact absurd h (fun h => lp_0 h)
  | succ n ih =>
    intro x2 x4 h H locs ls hP hD hS hl
    obtain ⟨y, h, hk⟩ := lp_s h
    rw [f_X10_boundBits_L1] at h
    refine lv_iload hx hb dX10_boundBits_41 (lv_at hl 2 rfl) ?_
    refine lv_aload_n hx hb dX10_boundBits_43 rfl (lv_at hl 0 rfl) ?_
    refine va_get (D := G.1) (ci := 9) (v := .ref q_t_z) (C := RX10) (T := TX10) (N := 21) hx hb hts wi_X10_boundBits_X10 hown hK hP 0 rfl rfl 0 (by decide) (hts _ wd_X10_boundBits_3) (fun _ h9 => h9) rfl dX10_boundBits_44 ?_
    refine lv_bipush (v := 49) hx hb dX10_boundBits_47 (by decide) ?_
    obtain ⟨g_14, h⟩ := gd_ok h
    refine va_iald (D := G.1) hx hb hK hP 1 0 rfl rfl g_14 dX10_boundBits_49 ?_
    refine lv_icmp_gt (tgt := 76) hx hb dX10_boundBits_50 (by decide) (fun c_15 => ?_) (fun c_15 => ?_)
    · replace h := it_t h c_15
      obtain rfl := sm1 h
      obtain rfl := sm1 hk
      exact K H locs ls hP hD hS (lv_sub hl [0, 1] rfl)
    · replace h := it_f h c_15
      refine lv_dload_n hx hb dX10_boundBits_53 rfl (lv_at hl 1 rfl) ?_
      refine lv_iload hx hb dX10_boundBits_54 (lv_at hl 2 rfl) ?_
      refine lv_i2d hx hb dX10_boundBits_56 ?_
      obtain ⟨g_16, h⟩ := gd_ok h
      refine lv_dmul hx hb dX10_boundBits_57 g_16 ?_
      refine lv_topd (fun x2_17 ex2_17 => ?_)
      replace h := pl_v h ex2_17
      refine lv_dstore_n (lv' := [(2, .double x2_17), (0, .ref q_t), (4, .int x4)]) hx hb dX10_boundBits_58 rfl hl (by decide) rfl (fun ls hl => ?_)
      refine lv_dload_n hx hb dX10_boundBits_59 rfl (lv_at hl 0 rfl) ?_
      refine lv_aload_n hx hb dX10_boundBits_60 rfl (lv_at hl 1 rfl) ?_
      refine va_get (D := G.1) (ci := 9) (v := .ref q_t_z) (C := RX10) (T := TX10) (N := 21) hx hb hts wi_X10_boundBits_X10 hown hK hP 0 rfl rfl 0 (by decide) (hts _ wd_X10_boundBits_3) (fun _ h9 => h9) rfl dX10_boundBits_61 ?_
      refine lv_bipush (v := 49) hx hb dX10_boundBits_64 (by decide) ?_
      obtain ⟨g_18, h⟩ := gd_ok h
      refine va_iald (D := G.1) hx hb hK hP 1 0 rfl rfl g_18 dX10_boundBits_66 ?_
      refine lv_i2d hx hb dX10_boundBits_67 ?_
      obtain ⟨g_19, h⟩ := gd_ok h
      refine lv_ddiv hx hb dX10_boundBits_68 g_19 ?_
      refine lv_topd (fun x2_20 ex2_20 => ?_)
      replace h := pl_v h ex2_20
      refine lv_dstore_n (lv' := [(2, .double x2_20), (0, .ref q_t), (4, .int x4)]) hx hb dX10_boundBits_69 rfl hl (by decide) rfl (fun ls hl => ?_)
      obtain ⟨x4_21, ex4_21, h⟩ := pl_ok h
      refine lv_iinc (v := x4_21) (lv' := [(4, .int x4_21), (2, .double x2_20), (0, .ref q_t)]) hx hb dX10_boundBits_70 hl (k := 2) rfl (by rw [ex4_21]; rfl) (by decide) rfl (fun ls hl => ?_)
      refine lv_goto (tgt := 41) hx hb dX10_boundBits_73 (by decide) ?_
      obtain rfl := sm1 h
      exact ih x2_20 x4_21 hk H locs ls hP hD hS (lv_sub hl [2, 1, 0] rfl)
set_option maxHeartbeats 4000000 in
set_option maxRecDepth 100000 in
theorem l_X10_boundBits_2 {p : Program} {l : Launch} {e : Env} {s : State} {m : MethodId} {args : Array Value} {below : List Frame} {meth : Method} {c : Code} {Q : State → Prop} {A0 : Nat → Prop} {H0 : Heap} (C : CallFix p m c cX10_boundBits 5 s args wsX10_boundBits RX10) (G : GT) (hK : gK G s) (hA : ∀ q : Nat, H0.size ≤ q → A0 q) (q_t q_t_z q_t_old q_t_past q_t_kept q_t_text q_t_order q_t_told q_t_rowsTaken q_t_columnsTaken q_t_ways q_t_scaled q_t_rowFactors q_t_columnFactors q_t_rest q_t_diagonals q_t_weights : Nat) (t_states : Int32) (t_isKept : Int32) (t_length : Int32) (t_spot : Int32) (t_toldRows : Int32) (t_z : Nat → Int32) (t_scaled : Nat → UInt64) (t_rowFactors : Nat → UInt64) (t_columnFactors : Nat → UInt64) (E_x2 : UInt64) (K : ∀ (H : Heap) (locs : List Loc) (ls : Array Slot), va_P G.1 vwCl [(q_t, .inr (9, [.ref q_t_z, .ref q_t_old, .ref q_t_past, .int t_states, .ref q_t_kept, .int t_isKept, .ref q_t_text, .int t_length, .ref q_t_order, .ref q_t_told, .int t_spot, .int t_toldRows, .ref q_t_rowsTaken, .ref q_t_columnsTaken, .ref q_t_ways, .ref q_t_scaled, .ref q_t_rowFactors, .ref q_t_columnFactors, .ref q_t_rest, .ref q_t_diagonals, .ref q_t_weights])), (q_t_z, .inl (G.2 0, 50, .inl t_z)), (q_t_scaled, .inl (G.2 2, 49, .inr (.inr (.inr (.inl t_scaled))))), (q_t_rowFactors, .inl (G.2 2, 7, .inr (.inr (.inr (.inl t_rowFactors))))), (q_t_columnFactors, .inl (G.2 2, 7, .inr (.inr (.inr (.inl t_columnFactors)))))] H → va_D A0 [(q_t, .inr (9, [.ref q_t_z, .ref q_t_old, .ref q_t_past, .int t_states, .ref q_t_kept, .int t_isKept, .ref q_t_text, .int t_length, .ref q_t_order, .ref q_t_told, .int t_spot, .int t_toldRows, .ref q_t_rowsTaken, .ref q_t_columnsTaken, .ref q_t_ways, .ref q_t_scaled, .ref q_t_rowFactors, .ref q_t_columnFactors, .ref q_t_rest, .ref q_t_diagonals, .ref q_t_weights])), (q_t_z, .inl (G.2 0, 50, .inl t_z)), (q_t_scaled, .inl (G.2 2, 49, .inr (.inr (.inr (.inl t_scaled))))), (q_t_rowFactors, .inl (G.2 2, 7, .inr (.inr (.inr (.inl t_rowFactors))))), (q_t_columnFactors, .inl (G.2 2, 7, .inr (.inr (.inr (.inl t_columnFactors)))))] → va_S A0 H0 H locs → lv_has ls 5 [(0, .ref q_t), (2, .double E_x2)] → W p l e ({ frames := 3, cells := 0, slots := 0, locals := 81 } : Room) s m args below meth c H locs 0 0 Q (F0 m 107 ls [])) : ∀ (n : Nat) (x2 : UInt64) (x4 : Int32), lpN (f_X10_boundBits_L2 t_z t_rowFactors) n (x2, x4) = some E_x2 → ∀ (H : Heap) (locs : List Loc) (ls : Array Slot), va_P G.1 vwCl [(q_t, .inr (9, [.ref q_t_z, .ref q_t_old, .ref q_t_past, .int t_states, .ref q_t_kept, .int t_isKept, .ref q_t_text, .int t_length, .ref q_t_order, .ref q_t_told, .int t_spot, .int t_toldRows, .ref q_t_rowsTaken, .ref q_t_columnsTaken, .ref q_t_ways, .ref q_t_scaled, .ref q_t_rowFactors, .ref q_t_columnFactors, .ref q_t_rest, .ref q_t_diagonals, .ref q_t_weights])), (q_t_z, .inl (G.2 0, 50, .inl t_z)), (q_t_scaled, .inl (G.2 2, 49, .inr (.inr (.inr (.inl t_scaled))))), (q_t_rowFactors, .inl (G.2 2, 7, .inr (.inr (.inr (.inl t_rowFactors))))), (q_t_columnFactors, .inl (G.2 2, 7, .inr (.inr (.inr (.inl t_columnFactors)))))] H → va_D A0 [(q_t, .inr (9, [.ref q_t_z, .ref q_t_old, .ref q_t_past, .int t_states, .ref q_t_kept, .int t_isKept, .ref q_t_text, .int t_length, .ref q_t_order, .ref q_t_told, .int t_spot, .int t_toldRows, .ref q_t_rowsTaken, .ref q_t_columnsTaken, .ref q_t_ways, .ref q_t_scaled, .ref q_t_rowFactors, .ref q_t_columnFactors, .ref q_t_rest, .ref q_t_diagonals, .ref q_t_weights])), (q_t_z, .inl (G.2 0, 50, .inl t_z)), (q_t_scaled, .inl (G.2 2, 49, .inr (.inr (.inr (.inl t_scaled))))), (q_t_rowFactors, .inl (G.2 2, 7, .inr (.inr (.inr (.inl t_rowFactors))))), (q_t_columnFactors, .inl (G.2 2, 7, .inr (.inr (.inr (.inl t_columnFactors)))))] → va_S A0 H0 H locs → lv_has ls 5 [(0, .ref q_t), (2, .double x2), (4, .int x4)] → W p l e ({ frames := 3, cells := 0, slots := 0, locals := 81 } : Room) s m args below meth c H locs 0 0 Q (F0 m 79 ls []) := by
  obtain ⟨hx, hb, hml, hown, hts⟩ := C
  intro n
  induction n with
  | zero => intro x2 x4 h; exact absurd h (fun h => lp_0 h)
  | succ n ih =>
    intro x2 x4 h H locs ls hP hD hS hl
    obtain ⟨y, h, hk⟩ := lp_s h
    rw [f_X10_boundBits_L2] at h
    refine lv_iload hx hb dX10_boundBits_79 (lv_at hl 2 rfl) ?_
    refine lv_aload_n hx hb dX10_boundBits_81 rfl (lv_at hl 0 rfl) ?_
    refine va_get (D := G.1) (ci := 9) (v := .ref q_t_z) (C := RX10) (T := TX10) (N := 21) hx hb hts wi_X10_boundBits_X10 hown hK hP 0 rfl rfl 0 (by decide) (hts _ wd_X10_boundBits_3) (fun _ h9 => h9) rfl dX10_boundBits_82 ?_
    refine lv_bipush (v := 49) hx hb dX10_boundBits_85 (by decide) ?_
    obtain ⟨g_25, h⟩ := gd_ok h
    refine va_iald (D := G.1) hx hb hK hP 1 0 rfl rfl g_25 dX10_boundBits_87 ?_
    refine lv_icmp_ge (tgt := 107) hx hb dX10_boundBits_88 (by decide) (fun c_26 => ?_) (fun c_26 => ?_)
    · replace h := it_t h c_26
      obtain rfl := sm1 h
      obtain rfl := sm1 hk
      exact K H locs ls hP hD hS (lv_sub hl [0, 1] rfl)
    · replace h := it_f h c_26
      refine lv_dload_n hx hb dX10_boundBits_91 rfl (lv_at hl 1 rfl) ?_
      refine lv_aload_n hx hb dX10_boundBits_92 rfl (lv_at hl 0 rfl) ?_
      refine va_get (D := G.1) (ci := 9) (v := .ref q_t_rowFactors) (C := RX10) (T := TX10) (N := 21) hx hb hts wi_X10_boundBits_X10 hown hK hP 0 rfl rfl 16 (by decide) (hts _ wd_X10_boundBits_4) (fun _ h9 => h9) rfl dX10_boundBits_93 ?_
      refine lv_iload hx hb dX10_boundBits_96 (lv_at hl 2 rfl) ?_
      obtain ⟨g_27, h⟩ := gd_ok h
      refine va_dald (D := G.1) hx hb hK hP 3 2 rfl rfl g_27 dX10_boundBits_98 ?_
      obtain ⟨g_28, h⟩ := gd_ok h
      refine lv_dmul hx hb dX10_boundBits_99 g_28 ?_
      refine lv_topd (fun x2_29 ex2_29 => ?_)
      replace h := pl_v h ex2_29
      refine lv_dstore_n (lv' := [(2, .double x2_29), (0, .ref q_t), (4, .int x4)]) hx hb dX10_boundBits_100 rfl hl (by decide) rfl (fun ls hl => ?_)
      obtain ⟨x4_30, ex4_30, h⟩ := pl_ok h
      refine lv_iinc (v := x4_30) (lv' := [(4, .int x4_30), (2, .double x2_29), (0, .ref q_t)]) hx hb dX10_boundBits_101 hl (k := 2) rfl (by rw [ex4_30]; rfl) (by decide) rfl (fun ls hl => ?_)
      refine lv_goto (tgt := 79) hx hb dX10_boundBits_104 (by decide) ?_
      obtain rfl := sm1 h
      exact ih x2_29 x4_30 hk H locs ls hP hD hS (lv_sub hl [2, 1, 0] rfl)
set_option maxHeartbeats 4000000 in
set_option maxRecDepth 100000 in
theorem l_X10_boundBits_3 {p : Program} {l : Launch} {e : Env} {s : State} {m : MethodId} {args : Array Value} {below : List Frame} {meth : Method} {c : Code} {Q : State → Prop} {A0 : Nat → Prop} {H0 : Heap} (C : CallFix p m c cX10_boundBits 5 s args wsX10_boundBits RX10) (G : GT) (hK : gK G s) (hA : ∀ q : Nat, H0.size ≤ q → A0 q) (q_t q_t_z q_t_old q_t_past q_t_kept q_t_text q_t_order q_t_told q_t_rowsTaken q_t_columnsTaken q_t_ways q_t_scaled q_t_rowFactors q_t_columnFactors q_t_rest q_t_diagonals q_t_weights : Nat) (t_states : Int32) (t_isKept : Int32) (t_length : Int32) (t_spot : Int32) (t_toldRows : Int32) (t_z : Nat → Int32) (t_scaled : Nat → UInt64) (t_rowFactors : Nat → UInt64) (t_columnFactors : Nat → UInt64) (E_x2 : UInt64) (K : ∀ (H : Heap) (locs : List Loc) (ls : Array Slot), va_P G.1 vwCl [(q_t, .inr (9, [.ref q_t_z, .ref q_t_old, .ref q_t_past, .int t_states, .ref q_t_kept, .int t_isKept, .ref q_t_text, .int t_length, .ref q_t_order, .ref q_t_told, .int t_spot, .int t_toldRows, .ref q_t_rowsTaken, .ref q_t_columnsTaken, .ref q_t_ways, .ref q_t_scaled, .ref q_t_rowFactors, .ref q_t_columnFactors, .ref q_t_rest, .ref q_t_diagonals, .ref q_t_weights])), (q_t_z, .inl (G.2 0, 50, .inl t_z)), (q_t_scaled, .inl (G.2 2, 49, .inr (.inr (.inr (.inl t_scaled))))), (q_t_rowFactors, .inl (G.2 2, 7, .inr (.inr (.inr (.inl t_rowFactors))))), (q_t_columnFactors, .inl (G.2 2, 7, .inr (.inr (.inr (.inl t_columnFactors)))))] H → va_D A0 [(q_t, .inr (9, [.ref q_t_z, .ref q_t_old, .ref q_t_past, .int t_states, .ref q_t_kept, .int t_isKept, .ref q_t_text, .int t_length, .ref q_t_order, .ref q_t_told, .int t_spot, .int t_toldRows, .ref q_t_rowsTaken, .ref q_t_columnsTaken, .ref q_t_ways, .ref q_t_scaled, .ref q_t_rowFactors, .ref q_t_columnFactors, .ref q_t_rest, .ref q_t_diagonals, .ref q_t_weights])), (q_t_z, .inl (G.2 0, 50, .inl t_z)), (q_t_scaled, .inl (G.2 2, 49, .inr (.inr (.inr (.inl t_scaled))))), (q_t_rowFactors, .inl (G.2 2, 7, .inr (.inr (.inr (.inl t_rowFactors))))), (q_t_columnFactors, .inl (G.2 2, 7, .inr (.inr (.inr (.inl t_columnFactors)))))] → va_S A0 H0 H locs → lv_has ls 5 [(2, .double E_x2)] → W p l e ({ frames := 3, cells := 0, slots := 0, locals := 81 } : Room) s m args below meth c H locs 0 0 Q (F0 m 138 ls [])) : ∀ (n : Nat) (x2 : UInt64) (x4 : Int32), lpN (f_X10_boundBits_L3 t_z t_columnFactors) n (x2, x4) = some E_x2 → ∀ (H : Heap) (locs : List Loc) (ls : Array Slot), va_P G.1 vwCl [(q_t, .inr (9, [.ref q_t_z, .ref q_t_old, .ref q_t_past, .int t_states, .ref q_t_kept, .int t_isKept, .ref q_t_text, .int t_length, .ref q_t_order, .ref q_t_told, .int t_spot, .int t_toldRows, .ref q_t_rowsTaken, .ref q_t_columnsTaken, .ref q_t_ways, .ref q_t_scaled, .ref q_t_rowFactors, .ref q_t_columnFactors, .ref q_t_rest, .ref q_t_diagonals, .ref q_t_weights])), (q_t_z, .inl (G.2 0, 50, .inl t_z)), (q_t_scaled, .inl (G.2 2, 49, .inr (.inr (.inr (.inl t_scaled))))), (q_t_rowFactors, .inl (G.2 2, 7, .inr (.inr (.inr (.inl t_rowFactors))))), (q_t_columnFactors, .inl (G.2 2, 7, .inr (.inr (.inr (.inl t_columnFactors)))))] H → va_D A0 [(q_t, .inr (9, [.ref q_t_z, .ref q_t_old, .ref q_t_past, .int t_states, .ref q_t_kept, .int t_isKept, .ref q_t_text, .int t_length, .ref q_t_order, .ref q_t_told, .int t_spot, .int t_toldRows, .ref q_t_rowsTaken, .ref q_t_columnsTaken, .ref q_t_ways, .ref q_t_scaled, .ref q_t_rowFactors, .ref q_t_columnFactors, .ref q_t_rest, .ref q_t_diagonals, .ref q_t_weights])), (q_t_z, .inl (G.2 0, 50, .inl t_z)), (q_t_scaled, .inl (G.2 2, 49, .inr (.inr (.inr (.inl t_scaled))))), (q_t_rowFactors, .inl (G.2 2, 7, .inr (.inr (.inr (.inl t_rowFactors))))), (q_t_columnFactors, .inl (G.2 2, 7, .inr (.inr (.inr (.inl t_columnFactors)))))] → va_S A0 H0 H locs → lv_has ls 5 [(0, .ref q_t), (2, .double x2), (4, .int x4)] → W p l e ({ frames := 3, cells := 0, slots := 0, locals := 81 } : Room) s m args below meth c H locs 0 0 Q (F0 m 110 ls []) := by
  obtain ⟨hx, hb, hml, hown, hts⟩ := C
  intro n
  induction n with
  | zero => intro x2 x4 h; exact absurd h (fun h => lp_0 h)
  | succ n ih =>
    intro x2 x4 h H locs ls hP hD hS hl
    obtain ⟨y, h, hk⟩ := lp_s h
    rw [f_X10_boundBits_L3] at h
    refine lv_iload hx hb dX10_boundBits_110 (lv_at hl 2 rfl) ?_
    refine lv_aload_n hx hb dX10_boundBits_112 rfl (lv_at hl 0 rfl) ?_
    refine va_get (D := G.1) (ci := 9) (v := .ref q_t_z) (C := RX10) (T := TX10) (N := 21) hx hb hts wi_X10_boundBits_X10 hown hK hP 0 rfl rfl 0 (by decide) (hts _ wd_X10_boundBits_3) (fun _ h9 => h9) rfl dX10_boundBits_113 ?_
    refine lv_bipush (v := 49) hx hb dX10_boundBits_116 (by decide) ?_
    obtain ⟨g_34, h⟩ := gd_ok h
    refine va_iald (D := G.1) hx hb hK hP 1 0 rfl rfl g_34 dX10_boundBits_118 ?_
    refine lv_icmp_ge (tgt := 138) hx hb dX10_boundBits_119 (by decide) (fun c_35 => ?_) (fun c_35 => ?_)
    · replace h := it_t h c_35
      obtain rfl := sm1 h
      obtain rfl := sm1 hk
      exact K H locs ls hP hD hS (lv_sub hl [1] rfl)
    · replace h := it_f h c_35
      refine lv_dload_n hx hb dX10_boundBits_122 rfl (lv_at hl 1 rfl) ?_
      refine lv_aload_n hx hb dX10_boundBits_123 rfl (lv_at hl 0 rfl) ?_
      refine va_get (D := G.1) (ci := 9) (v := .ref q_t_columnFactors) (C := RX10) (T := TX10) (N := 21) hx hb hts wi_X10_boundBits_X10 hown hK hP 0 rfl rfl 17 (by decide) (hts _ wd_X10_boundBits_5) (fun _ h9 => h9) rfl dX10_boundBits_124 ?_
      refine lv_iload hx hb dX10_boundBits_127 (lv_at hl 2 rfl) ?_
      obtain ⟨g_36, h⟩ := gd_ok h
      refine va_dald (D := G.1) hx hb hK hP 4 2 rfl rfl g_36 dX10_boundBits_129 ?_
      obtain ⟨g_37, h⟩ := gd_ok h
      refine lv_dmul hx hb dX10_boundBits_130 g_37 ?_
      refine lv_topd (fun x2_38 ex2_38 => ?_)
      replace h := pl_v h ex2_38
      refine lv_dstore_n (lv' := [(2, .double x2_38), (0, .ref q_t), (4, .int x4)]) hx hb dX10_boundBits_131 rfl hl (by decide) rfl (fun ls hl => ?_)
      obtain ⟨x4_39, ex4_39, h⟩ := pl_ok h
      refine lv_iinc (v := x4_39) (lv' := [(4, .int x4_39), (2, .double x2_38), (0, .ref q_t)]) hx hb dX10_boundBits_132 hl (k := 2) rfl (by rw [ex4_39]; rfl) (by decide) rfl (fun ls hl => ?_)
      refine lv_goto (tgt := 110) hx hb dX10_boundBits_135 (by decide) ?_
      obtain rfl := sm1 h
      exact ih x2_38 x4_39 hk H locs ls hP hD hS (lv_sub hl [2, 1, 0] rfl)
set_option maxHeartbeats 4000000 in
set_option maxRecDepth 100000 in
theorem k_X10_boundBits {p : Program} {l : Launch} {e : Env} {s : State} {m : MethodId} {args : Array Value} {below : List Frame} {meth : Method} {c : Code} {Q : State → Prop} {A0 : Nat → Prop} {H0 : Heap} (C : CallFix p m c cX10_boundBits 5 s args wsX10_boundBits RX10) (G : GT) (hK : gK G s) (hA : ∀ q : Nat, H0.size ≤ q → A0 q) (q_t q_t_z q_t_old q_t_past q_t_kept q_t_text q_t_order q_t_told q_t_rowsTaken q_t_columnsTaken q_t_ways q_t_scaled q_t_rowFactors q_t_columnFactors q_t_rest q_t_diagonals q_t_weights : Nat) (t_states : Int32) (t_isKept : Int32) (t_length : Int32) (t_spot : Int32) (t_toldRows : Int32) (t_z : Nat → Int32) (t_scaled : Nat → UInt64) (t_rowFactors : Nat → UInt64) (t_columnFactors : Nat → UInt64) (a1 : Int32) (r : Int64) (o_t_scaled : Nat → UInt64) (o_t_rowFactors : Nat → UInt64) (o_t_columnFactors : Nat → UInt64) (h : f_X10_boundBits t_z t_scaled t_rowFactors t_columnFactors a1 = some (r, o_t_scaled, o_t_rowFactors, o_t_columnFactors)) (KR : ∀ (H : Heap) (locs : List Loc) (ls : Array Slot) (pc : Nat), decode cX10_boundBits pc = .ok (.lreturn, 1) → va_P G.1 vwCl [(q_t, .inr (9, [.ref q_t_z, .ref q_t_old, .ref q_t_past, .int t_states, .ref q_t_kept, .int t_isKept, .ref q_t_text, .int t_length, .ref q_t_order, .ref q_t_told, .int t_spot, .int t_toldRows, .ref q_t_rowsTaken, .ref q_t_columnsTaken, .ref q_t_ways, .ref q_t_scaled, .ref q_t_rowFactors, .ref q_t_columnFactors, .ref q_t_rest, .ref q_t_diagonals, .ref q_t_weights])), (q_t_z, .inl (G.2 0, 50, .inl t_z)), (q_t_scaled, .inl (G.2 2, 49, .inr (.inr (.inr (.inl o_t_scaled))))), (q_t_rowFactors, .inl (G.2 2, 7, .inr (.inr (.inr (.inl o_t_rowFactors))))), (q_t_columnFactors, .inl (G.2 2, 7, .inr (.inr (.inr (.inl o_t_columnFactors)))))] H → va_D A0 [(q_t, .inr (9, [.ref q_t_z, .ref q_t_old, .ref q_t_past, .int t_states, .ref q_t_kept, .int t_isKept, .ref q_t_text, .int t_length, .ref q_t_order, .ref q_t_told, .int t_spot, .int t_toldRows, .ref q_t_rowsTaken, .ref q_t_columnsTaken, .ref q_t_ways, .ref q_t_scaled, .ref q_t_rowFactors, .ref q_t_columnFactors, .ref q_t_rest, .ref q_t_diagonals, .ref q_t_weights])), (q_t_z, .inl (G.2 0, 50, .inl t_z)), (q_t_scaled, .inl (G.2 2, 49, .inr (.inr (.inr (.inl o_t_scaled))))), (q_t_rowFactors, .inl (G.2 2, 7, .inr (.inr (.inr (.inl o_t_rowFactors))))), (q_t_columnFactors, .inl (G.2 2, 7, .inr (.inr (.inr (.inl o_t_columnFactors)))))] → va_S A0 H0 H locs → W p l e ({ frames := 3, cells := 0, slots := 0, locals := 81 } : Room) s m args below meth c H locs 0 0 Q (F0 m pc ls [.long r])) : ∀ (H : Heap) (locs : List Loc) (ls : Array Slot), va_P G.1 vwCl [(q_t, .inr (9, [.ref q_t_z, .ref q_t_old, .ref q_t_past, .int t_states, .ref q_t_kept, .int t_isKept, .ref q_t_text, .int t_length, .ref q_t_order, .ref q_t_told, .int t_spot, .int t_toldRows, .ref q_t_rowsTaken, .ref q_t_columnsTaken, .ref q_t_ways, .ref q_t_scaled, .ref q_t_rowFactors, .ref q_t_columnFactors, .ref q_t_rest, .ref q_t_diagonals, .ref q_t_weights])), (q_t_z, .inl (G.2 0, 50, .inl t_z)), (q_t_scaled, .inl (G.2 2, 49, .inr (.inr (.inr (.inl t_scaled))))), (q_t_rowFactors, .inl (G.2 2, 7, .inr (.inr (.inr (.inl t_rowFactors))))), (q_t_columnFactors, .inl (G.2 2, 7, .inr (.inr (.inr (.inl t_columnFactors)))))] H → va_D A0 [(q_t, .inr (9, [.ref q_t_z, .ref q_t_old, .ref q_t_past, .int t_states, .ref q_t_kept, .int t_isKept, .ref q_t_text, .int t_length, .ref q_t_order, .ref q_t_told, .int t_spot, .int t_toldRows, .ref q_t_rowsTaken, .ref q_t_columnsTaken, .ref q_t_ways, .ref q_t_scaled, .ref q_t_rowFactors, .ref q_t_columnFactors, .ref q_t_rest, .ref q_t_diagonals, .ref q_t_weights])), (q_t_z, .inl (G.2 0, 50, .inl t_z)), (q_t_scaled, .inl (G.2 2, 49, .inr (.inr (.inr (.inl t_scaled))))), (q_t_rowFactors, .inl (G.2 2, 7, .inr (.inr (.inr (.inl t_rowFactors))))), (q_t_columnFactors, .inl (G.2 2, 7, .inr (.inr (.inr (.inl t_columnFactors)))))] → va_S A0 H0 H locs → lv_has ls 5 [(0, .ref q_t), (1, .int a1)] → W p l e ({ frames := 3, cells := 0, slots := 0, locals := 81 } : Room) s m args below meth c H locs 0 0 Q (F0 m 0 ls []) := by
  obtain ⟨hx, hb, hml, hown, hts⟩ := C
  intro H locs ls hP hD hS hl
  rw [f_X10_boundBits] at h
  refine lv_iload_n hx hb dX10_boundBits_0 rfl (lv_at hl 1 rfl) ?_
  obtain ⟨r_1, hf_2, h⟩ := bd_ok h
  refine ck_Si (rest := []) (wn := [(q_t, .inr (9, [.ref q_t_z, .ref q_t_old, .ref q_t_past, .int t_states, .ref q_t_kept, .int t_isKept, .ref q_t_text, .int t_length, .ref q_t_order, .ref q_t_told, .int t_spot, .int t_toldRows, .ref q_t_rowsTaken, .ref q_t_columnsTaken, .ref q_t_ways, .ref q_t_scaled, .ref q_t_rowFactors, .ref q_t_columnFactors, .ref q_t_rest, .ref q_t_diagonals, .ref q_t_weights])), (q_t_z, .inl (G.2 0, 50, .inl t_z)), (q_t_scaled, .inl (G.2 2, 49, .inr (.inr (.inr (.inl t_scaled))))), (q_t_rowFactors, .inl (G.2 2, 7, .inr (.inr (.inr (.inl t_rowFactors))))), (q_t_columnFactors, .inl (G.2 2, 7, .inr (.inr (.inr (.inl t_columnFactors)))))]) ⟨hx, hb, hml, hown, hts⟩ hK hP hD hS hA [] [0, 1, 2, 3, 4] [0, 1, 2, 3, 4] (c_X10_isSweeps l G _ a1 _ hf_2) (cwS 1 hts gX10_boundBits_X10_isSweeps rfl rfl rfl (by decide +kernel) ⟨Nat.le_of_ble_eq_true rfl, Nat.le_of_ble_eq_true rfl⟩) rfl rfl rfl rfl (by decide) rfl rfl rfl hl.1 rfl (Nat.le_of_ble_eq_true rfl) dX10_boundBits_1 ⟨Nat.zero_le _, Nat.zero_le _⟩ (fun H locs hP hD hS => ?_)
  refine lv_if_eq (tgt := 14) hx hb dX10_boundBits_4 (by decide) (fun c_3 => ?_) (fun c_3 => ?_)
  · replace h := it_t h c_3
    refine lv_iload_n hx hb dX10_boundBits_14 rfl (lv_at hl 1 rfl) ?_
    obtain ⟨r_4, hf_5, h⟩ := bd_ok h
    refine ck_Si (rest := []) (wn := [(q_t, .inr (9, [.ref q_t_z, .ref q_t_old, .ref q_t_past, .int t_states, .ref q_t_kept, .int t_isKept, .ref q_t_text, .int t_length, .ref q_t_order, .ref q_t_told, .int t_spot, .int t_toldRows, .ref q_t_rowsTaken, .ref q_t_columnsTaken, .ref q_t_ways, .ref q_t_scaled, .ref q_t_rowFactors, .ref q_t_columnFactors, .ref q_t_rest, .ref q_t_diagonals, .ref q_t_weights])), (q_t_z, .inl (G.2 0, 50, .inl t_z)), (q_t_scaled, .inl (G.2 2, 49, .inr (.inr (.inr (.inl t_scaled))))), (q_t_rowFactors, .inl (G.2 2, 7, .inr (.inr (.inr (.inl t_rowFactors))))), (q_t_columnFactors, .inl (G.2 2, 7, .inr (.inr (.inr (.inl t_columnFactors)))))]) ⟨hx, hb, hml, hown, hts⟩ hK hP hD hS hA [] [0, 1, 2, 3, 4] [0, 1, 2, 3, 4] (c_X10_isSweeps l G _ a1 _ hf_5) (cwS 1 hts gX10_boundBits_X10_isSweeps rfl rfl rfl (by decide +kernel) ⟨Nat.le_of_ble_eq_true rfl, Nat.le_of_ble_eq_true rfl⟩) rfl rfl rfl rfl (by decide) rfl rfl rfl hl.1 rfl (Nat.le_of_ble_eq_true rfl) dX10_boundBits_15 ⟨Nat.zero_le _, Nat.zero_le _⟩ (fun H locs hP hD hS => ?_)
    refine lv_if_eq (tgt := 27) hx hb dX10_boundBits_18 (by decide) (fun c_6 => ?_) (fun c_6 => ?_)
    · replace h := it_t h c_6
      refine lv_ldc2 (v := -9000000000000000002) hx hb hown (hts _ wd_X10_boundBits_2) dX10_boundBits_27 ?_
      obtain ⟨rfl, rfl, rfl, rfl⟩ := sm4 h
      exact KR H locs ls 30 dX10_boundBits_30 hP hD hS
    · replace h := it_f h c_6
      refine lv_ldc2 (v := -9000000000000000004) hx hb hown (hts _ wd_X10_boundBits_1) dX10_boundBits_21 ?_
      refine lv_goto (tgt := 30) hx hb dX10_boundBits_24 (by decide) ?_
      obtain ⟨rfl, rfl, rfl, rfl⟩ := sm4 h
      exact KR H locs ls 30 dX10_boundBits_30 hP hD hS
  · replace h := it_f h c_3
    refine lv_aload_n hx hb dX10_boundBits_7 rfl (lv_at hl 0 rfl) ?_
    obtain ⟨r_7, hf_8, h⟩ := bd_ok h
    refine ck_Vi (rest := []) (wn := [(q_t, .inr (9, [.ref q_t_z, .ref q_t_old, .ref q_t_past, .int t_states, .ref q_t_kept, .int t_isKept, .ref q_t_text, .int t_length, .ref q_t_order, .ref q_t_told, .int t_spot, .int t_toldRows, .ref q_t_rowsTaken, .ref q_t_columnsTaken, .ref q_t_ways, .ref q_t_scaled, .ref q_t_rowFactors, .ref q_t_columnFactors, .ref q_t_rest, .ref q_t_diagonals, .ref q_t_weights])), (q_t_z, .inl (G.2 0, 50, .inl t_z)), (q_t_scaled, .inl (G.2 2, 49, .inr (.inr (.inr (.inl t_scaled))))), (q_t_rowFactors, .inl (G.2 2, 7, .inr (.inr (.inr (.inl t_rowFactors))))), (q_t_columnFactors, .inl (G.2 2, 7, .inr (.inr (.inr (.inl t_columnFactors)))))]) ⟨hx, hb, hml, hown, hts⟩ hK hP hD hS hA [0, 1] [2, 3, 4] [3, 4, 0, 1, 2] (c_X10_canScale l G q_t q_t_z q_t_old q_t_past q_t_kept q_t_text q_t_order q_t_told q_t_rowsTaken q_t_columnsTaken q_t_ways q_t_scaled q_t_rowFactors q_t_columnFactors q_t_rest q_t_diagonals q_t_weights _ t_states t_isKept t_length t_spot t_toldRows t_z _ hf_8) (cwV 0 hts gX10_boundBits_X10_canScale rfl rfl rfl (by decide +kernel) ⟨Nat.le_of_ble_eq_true rfl, Nat.le_of_ble_eq_true rfl⟩) rfl rfl rfl rfl rfl rfl (by decide) rfl rfl rfl hl.1 rfl (Nat.le_of_ble_eq_true rfl) dX10_boundBits_8 ⟨Nat.zero_le _, Nat.zero_le _⟩ (fun H locs hP hD hS => ?_)
    refine lv_if_ne (tgt := 31) hx hb dX10_boundBits_11 (by decide) (fun c_9 => ?_) (fun c_9 => ?_)
    · replace h := it_f h c_9
      refine lv_aload_n hx hb dX10_boundBits_31 rfl (lv_at hl 0 rfl) ?_
      refine lv_iload_n hx hb dX10_boundBits_32 rfl (lv_at hl 1 rfl) ?_
      obtain ⟨⟨t_scaled_10, t_rowFactors_11, t_columnFactors_12⟩, hf_13, h⟩ := bd_ok h
      refine ck_Vv (rest := []) (wn := [(q_t, .inr (9, [.ref q_t_z, .ref q_t_old, .ref q_t_past, .int t_states, .ref q_t_kept, .int t_isKept, .ref q_t_text, .int t_length, .ref q_t_order, .ref q_t_told, .int t_spot, .int t_toldRows, .ref q_t_rowsTaken, .ref q_t_columnsTaken, .ref q_t_ways, .ref q_t_scaled, .ref q_t_rowFactors, .ref q_t_columnFactors, .ref q_t_rest, .ref q_t_diagonals, .ref q_t_weights])), (q_t_z, .inl (G.2 0, 50, .inl t_z)), (q_t_scaled, .inl (G.2 2, 49, .inr (.inr (.inr (.inl t_scaled_10))))), (q_t_rowFactors, .inl (G.2 2, 7, .inr (.inr (.inr (.inl t_rowFactors_11))))), (q_t_columnFactors, .inl (G.2 2, 7, .inr (.inr (.inr (.inl t_columnFactors_12)))))]) ⟨hx, hb, hml, hown, hts⟩ hK hP hD hS hA [0, 1, 2, 3, 4] [] [0, 1, 2, 3, 4] (c_X10_sweep l G q_t q_t_z q_t_old q_t_past q_t_kept q_t_text q_t_order q_t_told q_t_rowsTaken q_t_columnsTaken q_t_ways q_t_scaled q_t_rowFactors q_t_columnFactors q_t_rest q_t_diagonals q_t_weights _ t_states t_isKept t_length t_spot t_toldRows t_z t_scaled t_rowFactors t_columnFactors a1 _ _ _ hf_13) (cwV 1 hts gX10_boundBits_X10_sweep rfl rfl rfl (by decide +kernel) ⟨Nat.le_of_ble_eq_true rfl, Nat.le_of_ble_eq_true rfl⟩) rfl rfl rfl rfl rfl rfl (by decide) rfl rfl rfl hl.1 rfl (Nat.le_of_ble_eq_true rfl) dX10_boundBits_33 ⟨Nat.zero_le _, Nat.zero_le _⟩ (fun H locs hP hD hS => ?_)
      refine lv_dconst1 hx hb dX10_boundBits_36 ?_
      refine lv_dstore_n (lv' := [(2, .double FP.dconst1), (0, .ref q_t), (1, .int a1)]) hx hb dX10_boundBits_37 rfl hl (by decide) rfl (fun ls hl => ?_)
      refine lv_iconst (v := 1) hx hb dX10_boundBits_38 (by decide) ?_
      refine lv_istore (lv' := [(4, .int (1 : Int32)), (2, .double FP.dconst1), (0, .ref q_t), (1, .int a1)]) hx hb dX10_boundBits_39 hl (by decide) rfl (fun ls hl => ?_)
      obtain ⟨x2_22, hz_24, h⟩ := bd_ok h
      refine l_X10_boundBits_1 ⟨hx, hb, hml, hown, hts⟩ G hK hA q_t q_t_z q_t_old q_t_past q_t_kept q_t_text q_t_order q_t_told q_t_rowsTaken q_t_columnsTaken q_t_ways q_t_scaled q_t_rowFactors q_t_columnFactors q_t_rest q_t_diagonals q_t_weights t_states t_isKept t_length t_spot t_toldRows t_z t_scaled_10 t_rowFactors_11 t_columnFactors_12 x2_22 ?_ FU FP.dconst1 (1 : Int32) hz_24 H locs ls hP hD hS (lv_sub hl [2, 1, 0] rfl)
      intro H locs ls hP hD hS hl
      refine lv_iconst (v := 0) hx hb dX10_boundBits_76 (by decide) ?_
      refine lv_istore (lv' := [(4, .int (0 : Int32)), (0, .ref q_t), (2, .double x2_22)]) hx hb dX10_boundBits_77 hl (by decide) rfl (fun ls hl => ?_)
      obtain ⟨x2_31, hz_33, h⟩ := bd_ok h
      refine l_X10_boundBits_2 ⟨hx, hb, hml, hown, hts⟩ G hK hA q_t q_t_z q_t_old q_t_past q_t_kept q_t_text q_t_order q_t_told q_t_rowsTaken q_t_columnsTaken q_t_ways q_t_scaled q_t_rowFactors q_t_columnFactors q_t_rest q_t_diagonals q_t_weights t_states t_isKept t_length t_spot t_toldRows t_z t_scaled_10 t_rowFactors_11 t_columnFactors_12 x2_31 ?_ FU x2_22 (0 : Int32) hz_33 H locs ls hP hD hS (lv_sub hl [1, 2, 0] rfl)
      intro H locs ls hP hD hS hl
      refine lv_iconst (v := 0) hx hb dX10_boundBits_107 (by decide) ?_
      refine lv_istore (lv' := [(4, .int (0 : Int32)), (0, .ref q_t), (2, .double x2_31)]) hx hb dX10_boundBits_108 hl (by decide) rfl (fun ls hl => ?_)
      obtain ⟨x2_40, hz_42, h⟩ := bd_ok h
      refine l_X10_boundBits_3 ⟨hx, hb, hml, hown, hts⟩ G hK hA q_t q_t_z q_t_old q_t_past q_t_kept q_t_text q_t_order q_t_told q_t_rowsTaken q_t_columnsTaken q_t_ways q_t_scaled q_t_rowFactors q_t_columnFactors q_t_rest q_t_diagonals q_t_weights t_states t_isKept t_length t_spot t_toldRows t_z t_scaled_10 t_rowFactors_11 t_columnFactors_12 x2_40 ?_ FU x2_31 (0 : Int32) hz_42 H locs ls hP hD hS (lv_sub hl [1, 2, 0] rfl)
      intro H locs ls hP hD hS hl
      refine lv_dload_n hx hb dX10_boundBits_138 rfl (lv_at hl 0 rfl) ?_
      obtain ⟨r_43, hf_44, h⟩ := bd_ok h
      refine ck_Sl (rest := []) (wn := [(q_t, .inr (9, [.ref q_t_z, .ref q_t_old, .ref q_t_past, .int t_states, .ref q_t_kept, .int t_isKept, .ref q_t_text, .int t_length, .ref q_t_order, .ref q_t_told, .int t_spot, .int t_toldRows, .ref q_t_rowsTaken, .ref q_t_columnsTaken, .ref q_t_ways, .ref q_t_scaled, .ref q_t_rowFactors, .ref q_t_columnFactors, .ref q_t_rest, .ref q_t_diagonals, .ref q_t_weights])), (q_t_z, .inl (G.2 0, 50, .inl t_z)), (q_t_scaled, .inl (G.2 2, 49, .inr (.inr (.inr (.inl t_scaled_10))))), (q_t_rowFactors, .inl (G.2 2, 7, .inr (.inr (.inr (.inl t_rowFactors_11))))), (q_t_columnFactors, .inl (G.2 2, 7, .inr (.inr (.inr (.inl t_columnFactors_12)))))]) ⟨hx, hb, hml, hown, hts⟩ hK hP hD hS hA [] [0, 1, 2, 3, 4] [0, 1, 2, 3, 4] (c_Jxe99ae_doubleToLongBits_ccdee l G _ x2_40 _ hf_44) (va_cwS 1 hts gX10_boundBits_Jxe99ae_doubleToLongBits_ccdee rfl rfl rfl (by decide +kernel) ⟨Nat.le_of_ble_eq_true rfl, Nat.le_of_ble_eq_true rfl⟩) rfl rfl rfl rfl (by decide) rfl rfl rfl hl.1 rfl (Nat.le_of_ble_eq_true rfl) dX10_boundBits_139 ⟨Nat.zero_le _, Nat.zero_le _⟩ (fun H locs hP hD hS => ?_)
      obtain ⟨rfl, rfl, rfl, rfl⟩ := sm4 h
      exact KR H locs ls 142 dX10_boundBits_142 hP hD hS
    · replace h := it_t h c_9
      refine lv_iload_n hx hb dX10_boundBits_14 rfl (lv_at hl 1 rfl) ?_
      obtain ⟨r_45, hf_46, h⟩ := bd_ok h
      refine ck_Si (rest := []) (wn := [(q_t, .inr (9, [.ref q_t_z, .ref q_t_old, .ref q_t_past, .int t_states, .ref q_t_kept, .int t_isKept, .ref q_t_text, .int t_length, .ref q_t_order, .ref q_t_told, .int t_spot, .int t_toldRows, .ref q_t_rowsTaken, .ref q_t_columnsTaken, .ref q_t_ways, .ref q_t_scaled, .ref q_t_rowFactors, .ref q_t_columnFactors, .ref q_t_rest, .ref q_t_diagonals, .ref q_t_weights])), (q_t_z, .inl (G.2 0, 50, .inl t_z)), (q_t_scaled, .inl (G.2 2, 49, .inr (.inr (.inr (.inl t_scaled))))), (q_t_rowFactors, .inl (G.2 2, 7, .inr (.inr (.inr (.inl t_rowFactors))))), (q_t_columnFactors, .inl (G.2 2, 7, .inr (.inr (.inr (.inl t_columnFactors)))))]) ⟨hx, hb, hml, hown, hts⟩ hK hP hD hS hA [] [0, 1, 2, 3, 4] [0, 1, 2, 3, 4] (c_X10_isSweeps l G _ a1 _ hf_46) (cwS 1 hts gX10_boundBits_X10_isSweeps rfl rfl rfl (by decide +kernel) ⟨Nat.le_of_ble_eq_true rfl, Nat.le_of_ble_eq_true rfl⟩) rfl rfl rfl rfl (by decide) rfl rfl rfl hl.1 rfl (Nat.le_of_ble_eq_true rfl) dX10_boundBits_15 ⟨Nat.zero_le _, Nat.zero_le _⟩ (fun H locs hP hD hS => ?_)
      refine lv_if_eq (tgt := 27) hx hb dX10_boundBits_18 (by decide) (fun c_47 => ?_) (fun c_47 => ?_)
      · replace h := it_t h c_47
        refine lv_ldc2 (v := -9000000000000000002) hx hb hown (hts _ wd_X10_boundBits_2) dX10_boundBits_27 ?_
        obtain ⟨rfl, rfl, rfl, rfl⟩ := sm4 h
        exact KR H locs ls 30 dX10_boundBits_30 hP hD hS
      · replace h := it_f h c_47
        refine lv_ldc2 (v := -9000000000000000004) hx hb hown (hts _ wd_X10_boundBits_1) dX10_boundBits_21 ?_
        refine lv_goto (tgt := 30) hx hb dX10_boundBits_24 (by decide) ?_
        obtain ⟨rfl, rfl, rfl, rfl⟩ := sm4 h
        exact KR H locs ls 30 dX10_boundBits_30 hP hD hS
set_option maxHeartbeats 4000000 in
set_option maxRecDepth 100000 in
theorem c_X10_boundBits (l : Launch) (G : GT) (q_t q_t_z q_t_old q_t_past q_t_kept q_t_text q_t_order q_t_told q_t_rowsTaken q_t_columnsTaken q_t_ways q_t_scaled q_t_rowFactors q_t_columnFactors q_t_rest q_t_diagonals q_t_weights : Nat) (sz : Nat) (t_states : Int32) (t_isKept : Int32) (t_length : Int32) (t_spot : Int32) (t_toldRows : Int32) (t_z : Nat → Int32) (t_scaled : Nat → UInt64) (t_rowFactors : Nat → UInt64) (t_columnFactors : Nat → UInt64) (a1 : Int32) (r : Int64) (o_t_scaled : Nat → UInt64) (o_t_rowFactors : Nat → UInt64) (o_t_columnFactors : Nat → UInt64) (h : f_X10_boundBits t_z t_scaled t_rowFactors t_columnFactors a1 = some (r, o_t_scaled, o_t_rowFactors, o_t_columnFactors)) : Met l yX10_boundBits wsX10_boundBits ({ frames := 3, cells := 0, slots := 0, locals := 81 } : Room) (va_Pc [.ref q_t, .int a1] (pcW G [(q_t, .inr (9, [.ref q_t_z, .ref q_t_old, .ref q_t_past, .int t_states, .ref q_t_kept, .int t_isKept, .ref q_t_text, .int t_length, .ref q_t_order, .ref q_t_told, .int t_spot, .int t_toldRows, .ref q_t_rowsTaken, .ref q_t_columnsTaken, .ref q_t_ways, .ref q_t_scaled, .ref q_t_rowFactors, .ref q_t_columnFactors, .ref q_t_rest, .ref q_t_diagonals, .ref q_t_weights])), (q_t_z, .inl (G.2 0, 50, .inl t_z)), (q_t_scaled, .inl (G.2 2, 49, .inr (.inr (.inr (.inl t_scaled))))), (q_t_rowFactors, .inl (G.2 2, 7, .inr (.inr (.inr (.inl t_rowFactors))))), (q_t_columnFactors, .inl (G.2 2, 7, .inr (.inr (.inr (.inl t_columnFactors)))))] sz)) (va_Ql (fun r9 (_ : Unit) => r9 = r) (fun _ t => atW G (va_A [(q_t, .inr (9, [.ref q_t_z, .ref q_t_old, .ref q_t_past, .int t_states, .ref q_t_kept, .int t_isKept, .ref q_t_text, .int t_length, .ref q_t_order, .ref q_t_told, .int t_spot, .int t_toldRows, .ref q_t_rowsTaken, .ref q_t_columnsTaken, .ref q_t_ways, .ref q_t_scaled, .ref q_t_rowFactors, .ref q_t_columnFactors, .ref q_t_rest, .ref q_t_diagonals, .ref q_t_weights])), (q_t_z, .inl (G.2 0, 50, .inl t_z)), (q_t_scaled, .inl (G.2 2, 49, .inr (.inr (.inr (.inl t_scaled))))), (q_t_rowFactors, .inl (G.2 2, 7, .inr (.inr (.inr (.inl t_rowFactors))))), (q_t_columnFactors, .inl (G.2 2, 7, .inr (.inr (.inr (.inl t_columnFactors)))))] sz) [(q_t, .inr (9, [.ref q_t_z, .ref q_t_old, .ref q_t_past, .int t_states, .ref q_t_kept, .int t_isKept, .ref q_t_text, .int t_length, .ref q_t_order, .ref q_t_told, .int t_spot, .int t_toldRows, .ref q_t_rowsTaken, .ref q_t_columnsTaken, .ref q_t_ways, .ref q_t_scaled, .ref q_t_rowFactors, .ref q_t_columnFactors, .ref q_t_rest, .ref q_t_diagonals, .ref q_t_weights])), (q_t_z, .inl (G.2 0, 50, .inl t_z)), (q_t_scaled, .inl (G.2 2, 49, .inr (.inr (.inr (.inl o_t_scaled))))), (q_t_rowFactors, .inl (G.2 2, 7, .inr (.inr (.inr (.inl o_t_rowFactors))))), (q_t_columnFactors, .inl (G.2 2, 7, .inr (.inr (.inr (.inl o_t_columnFactors)))))] t) (va_A [(q_t, .inr (9, [.ref q_t_z, .ref q_t_old, .ref q_t_past, .int t_states, .ref q_t_kept, .int t_isKept, .ref q_t_text, .int t_length, .ref q_t_order, .ref q_t_told, .int t_spot, .int t_toldRows, .ref q_t_rowsTaken, .ref q_t_columnsTaken, .ref q_t_ways, .ref q_t_scaled, .ref q_t_rowFactors, .ref q_t_columnFactors, .ref q_t_rest, .ref q_t_diagonals, .ref q_t_weights])), (q_t_z, .inl (G.2 0, 50, .inl t_z)), (q_t_scaled, .inl (G.2 2, 49, .inr (.inr (.inr (.inl t_scaled))))), (q_t_rowFactors, .inl (G.2 2, 7, .inr (.inr (.inr (.inl t_rowFactors))))), (q_t_columnFactors, .inl (G.2 2, 7, .inr (.inr (.inr (.inl t_columnFactors)))))] sz)) 0 0 (va_A [(q_t, .inr (9, [.ref q_t_z, .ref q_t_old, .ref q_t_past, .int t_states, .ref q_t_kept, .int t_isKept, .ref q_t_text, .int t_length, .ref q_t_order, .ref q_t_told, .int t_spot, .int t_toldRows, .ref q_t_rowsTaken, .ref q_t_columnsTaken, .ref q_t_ways, .ref q_t_scaled, .ref q_t_rowFactors, .ref q_t_columnFactors, .ref q_t_rest, .ref q_t_diagonals, .ref q_t_weights])), (q_t_z, .inl (G.2 0, 50, .inl t_z)), (q_t_scaled, .inl (G.2 2, 49, .inr (.inr (.inr (.inl t_scaled))))), (q_t_rowFactors, .inl (G.2 2, 7, .inr (.inr (.inr (.inl t_rowFactors))))), (q_t_columnFactors, .inl (G.2 2, 7, .inr (.inr (.inr (.inl t_columnFactors)))))] sz) := by
  refine Met.ofW (cc := cX10_boundBits) (maxL := 5) (ret := (some .long)) (by decide) rfl ?_
  intro p e s m args below meth c s₁ B hml hv
  obtain ⟨rfl, hsz, hP, hK, hD0⟩ := hv
  subst hsz
  have hD := hD0.self (sz := s.heap.size)
  generalize hAe : va_A [(q_t, .inr (9, [.ref q_t_z, .ref q_t_old, .ref q_t_past, .int t_states, .ref q_t_kept, .int t_isKept, .ref q_t_text, .int t_length, .ref q_t_order, .ref q_t_told, .int t_spot, .int t_toldRows, .ref q_t_rowsTaken, .ref q_t_columnsTaken, .ref q_t_ways, .ref q_t_scaled, .ref q_t_rowFactors, .ref q_t_columnFactors, .ref q_t_rest, .ref q_t_diagonals, .ref q_t_weights])), (q_t_z, .inl (G.2 0, 50, .inl t_z)), (q_t_scaled, .inl (G.2 2, 49, .inr (.inr (.inr (.inl t_scaled))))), (q_t_rowFactors, .inl (G.2 2, 7, .inr (.inr (.inr (.inl t_rowFactors))))), (q_t_columnFactors, .inl (G.2 2, 7, .inr (.inr (.inr (.inl t_columnFactors)))))] s.heap.size = A at hD ⊢
  have hA : ∀ q : Nat, s.heap.size ≤ q → A q := fun q h => by rw [← hAe]; exact Or.inr h
  have hl := lv_entry ([.ref q_t, .int a1]) (n := 5) (Nat.le_of_ble_eq_true rfl)
  rw [lg_entry_eq]
  refine k_X10_boundBits ⟨B.exec, B.bytes, hml, findClass_of_methodNamed B.named, atoms_spec (ws := wsX10_boundBits) B.pre⟩ G hK hA q_t q_t_z q_t_old q_t_past q_t_kept q_t_text q_t_order q_t_told q_t_rowsTaken q_t_columnsTaken q_t_ways q_t_scaled q_t_rowFactors q_t_columnFactors q_t_rest q_t_diagonals q_t_weights _ _ _ _ _ _ _ _ _ _ _ _ _ _ h ?_ _ _ _ hP hD va_S.rf hl
  intro H locs ls pc hd hP hD hS
  exact W.lret B.exec B.bytes B.returns (fun t ht hW => ⟨⟨r, (), rfl, rfl, by rw [ht]; exact hP, hD⟩, hS.F ht⟩) hS.2.2 hd B.notSynchronized
set_option maxRecDepth 20000 in
theorem wd_X10_canApart_1 : Cond.fieldLink RX10 7 "PermanentDeskModel" "z" "[I" ∈ wsX10_canApart := List.mem_of_getElem? (i := 1) (by decide +kernel)
set_option maxRecDepth 20000 in
theorem wi_X10_canApart_X10 : ∀ w ∈ u_ws RX10 TX10 21, w ∈ wsX10_canApart := by decide +kernel
def f_X10_canApart_L1 (t_z : Nat → Int32) : (Int32 × Int32) → Option ((Int32 × Int32) ⊕ Int32)
  | (x1, x2) =>
    if (49 : Int32) ≤ x2 then
      some (.inr x1)
    else
      if x1 = 0 then
        pl ((x2 + (1 : Int32)) : Int32) (fun x2_10 =>
        some (.inl ((0 : Int32), x2_10)))
      else
        gd (okI x2 50) (
        if (t_z x2.toNatClampNeg) < 0 then
          pl ((x2 + (1 : Int32)) : Int32) (fun x2_13 =>
          some (.inl ((0 : Int32), x2_13)))
        else
          pl ((x2 + (1 : Int32)) : Int32) (fun x2_14 =>
          some (.inl ((1 : Int32), x2_14))))
def f_X10_canApart (t_z : Nat → Int32) : Option Int32 :=
  (f_X10_areSumsLike t_z).bind (fun r_1 =>
  Option.bind (
    if r_1 = 0 then
      some (0 : Int32)
    else
      (f_X10_sumOfLine t_z (0 : Int32) (0 : Int32)).bind (fun r_5 =>
      if r_5 < (1 : Int32) then
        some (0 : Int32)
      else
        some (1 : Int32))) (fun y_4 =>
  (lpN (f_X10_canApart_L1 t_z) FU (y_4, (0 : Int32))).bind (fun x1_15 =>
  gd (x1_15 = 0 ∨ x1_15 = 1) (
  some x1_15))))
set_option maxHeartbeats 4000000 in
set_option maxRecDepth 100000 in
theorem l_X10_canApart_1 {p : Program} {l : Launch} {e : Env} {s : State} {m : MethodId} {args : Array Value} {below : List Frame} {meth : Method} {c : Code} {Q : State → Prop} {A0 : Nat → Prop} {H0 : Heap} (C : CallFix p m c cX10_canApart 3 s args wsX10_canApart RX10) (G : GT) (hK : gK G s) (hA : ∀ q : Nat, H0.size ≤ q → A0 q) (q_t q_t_z q_t_old q_t_past q_t_kept q_t_text q_t_order q_t_told q_t_rowsTaken q_t_columnsTaken q_t_ways q_t_scaled q_t_rowFactors q_t_columnFactors q_t_rest q_t_diagonals q_t_weights : Nat) (t_states : Int32) (t_isKept : Int32) (t_length : Int32) (t_spot : Int32) (t_toldRows : Int32) (t_z : Nat → Int32) (E_x1 : Int32) (K : ∀ (H : Heap) (locs : List Loc) (ls : Array Slot), va_P G.1 vwCl [(q_t, .inr (9, [.ref q_t_z, .ref q_t_old, .ref q_t_past, .int t_states, .ref q_t_kept, .int t_isKept, .ref q_t_text, .int t_length, .ref q_t_order, .ref q_t_told, .int t_spot, .int t_toldRows, .ref q_t_rowsTaken, .ref q_t_columnsTaken, .ref q_t_ways, .ref q_t_scaled, .ref q_t_rowFactors, .ref q_t_columnFactors, .ref q_t_rest, .ref q_t_diagonals, .ref q_t_weights])), (q_t_z, .inl (G.2 0, 50, .inl t_z))] H → va_D A0 [(q_t, .inr (9, [.ref q_t_z, .ref q_t_old, .ref q_t_past, .int t_states, .ref q_t_kept, .int t_isKept, .ref q_t_text, .int t_length, .ref q_t_order, .ref q_t_told, .int t_spot, .int t_toldRows, .ref q_t_rowsTaken, .ref q_t_columnsTaken, .ref q_t_ways, .ref q_t_scaled, .ref q_t_rowFactors, .ref q_t_columnFactors, .ref q_t_rest, .ref q_t_diagonals, .ref q_t_weights])), (q_t_z, .inl (G.2 0, 50, .inl t_z))] → va_S A0 H0 H locs → lv_has ls 3 [(1, .int E_x1)] → W p l e ({ frames := 3, cells := 0, slots := 0, locals := 68 } : Room) s m args below meth c H locs 0 0 Q (F0 m 56 ls [])) : ∀ (n : Nat) (x1 : Int32) (x2 : Int32), lpN (f_X10_canApart_L1 t_z) n (x1, x2) = some E_x1 → ∀ (H : Heap) (locs : List Loc) (ls : Array Slot), va_P G.1 vwCl [(q_t, .inr (9, [.ref q_t_z, .ref q_t_old, .ref q_t_past, .int t_states, .ref q_t_kept, .int t_isKept, .ref q_t_text, .int t_length, .ref q_t_order, .ref q_t_told, .int t_spot, .int t_toldRows, .ref q_t_rowsTaken, .ref q_t_columnsTaken, .ref q_t_ways, .ref q_t_scaled, .ref q_t_rowFactors, .ref q_t_columnFactors, .ref q_t_rest, .ref q_t_diagonals, .ref q_t_weights])), (q_t_z, .inl (G.2 0, 50, .inl t_z))] H → va_D A0 [(q_t, .inr (9, [.ref q_t_z, .ref q_t_old, .ref q_t_past, .int t_states, .ref q_t_kept, .int t_isKept, .ref q_t_text, .int t_length, .ref q_t_order, .ref q_t_told, .int t_spot, .int t_toldRows, .ref q_t_rowsTaken, .ref q_t_columnsTaken, .ref q_t_ways, .ref q_t_scaled, .ref q_t_rowFactors, .ref q_t_columnFactors, .ref q_t_rest, .ref q_t_diagonals, .ref q_t_weights])), (q_t_z, .inl (G.2 0, 50, .inl t_z))] → va_S A0 H0 H locs → lv_has ls 3 [(0, .ref q_t), (1, .int x1), (2, .int x2)] → W p l e ({ frames := 3, cells := 0, slots := 0, locals := 68 } : Room) s m args below meth c H locs 0 0 Q (F0 m 25 ls []) := by
  obtain ⟨hx, hb, hml, hown, hts⟩ := C
  intro n
  induction n with
  | zero => intro x1 x2 h; exact absurd h (fun h => lp_0 h)
  | succ n ih =>
    intro x1 x2 h H locs ls hP hD hS hl
    obtain ⟨y, h, hk⟩ := lp_s h
    rw [f_X10_canApart_L1] at h
    refine lv_iload_n hx hb dX10_canApart_25 rfl (lv_at hl 2 rfl) ?_
    refine lv_bipush (v := 49) hx hb dX10_canApart_26 (by decide) ?_
    refine lv_icmp_ge (tgt := 56) hx hb dX10_canApart_28 (by decide) (fun c_8 => ?_) (fun c_8 => ?_)
    · replace h := it_t h c_8
      obtain rfl := sm1 h
      obtain rfl := sm1 hk
      exact K H locs ls hP hD hS (lv_sub hl [1] rfl)
    · replace h := it_f h c_8
      refine lv_iload_n hx hb dX10_canApart_31 rfl (lv_at hl 1 rfl) ?_
      refine lv_if_eq (tgt := 48) hx hb dX10_canApart_32 (by decide) (fun c_9 => ?_) (fun c_9 => ?_)
      · replace h := it_t h c_9
        refine lv_iconst (v := 0) hx hb dX10_canApart_48 (by decide) ?_
        refine lv_istore_n (lv' := [(1, .int (0 : Int32)), (0, .ref q_t), (2, .int x2)]) hx hb dX10_canApart_49 rfl hl (by decide) rfl (fun ls hl => ?_)
        obtain ⟨x2_10, ex2_10, h⟩ := pl_ok h
        refine lv_iinc (v := x2_10) (lv' := [(2, .int x2_10), (1, .int (0 : Int32)), (0, .ref q_t)]) hx hb dX10_canApart_50 hl (k := 2) rfl (by rw [ex2_10]; rfl) (by decide) rfl (fun ls hl => ?_)
        refine lv_goto (tgt := 25) hx hb dX10_canApart_53 (by decide) ?_
        obtain rfl := sm1 h
        exact ih (0 : Int32) x2_10 hk H locs ls hP hD hS (lv_sub hl [2, 1, 0] rfl)
      · replace h := it_f h c_9
        refine lv_aload_n hx hb dX10_canApart_35 rfl (lv_at hl 0 rfl) ?_
        refine va_get (D := G.1) (ci := 9) (v := .ref q_t_z) (C := RX10) (T := TX10) (N := 21) hx hb hts wi_X10_canApart_X10 hown hK hP 0 rfl rfl 0 (by decide) (hts _ wd_X10_canApart_1) (fun _ h9 => h9) rfl dX10_canApart_36 ?_
        refine lv_iload_n hx hb dX10_canApart_39 rfl (lv_at hl 2 rfl) ?_
        obtain ⟨g_11, h⟩ := gd_ok h
        refine va_iald (D := G.1) hx hb hK hP 1 0 rfl rfl g_11 dX10_canApart_40 ?_
        refine lv_if_lt (tgt := 48) hx hb dX10_canApart_41 (by decide) (fun c_12 => ?_) (fun c_12 => ?_)
        · replace h := it_t h c_12
          refine lv_iconst (v := 0) hx hb dX10_canApart_48 (by decide) ?_
          refine lv_istore_n (lv' := [(1, .int (0 : Int32)), (0, .ref q_t), (2, .int x2)]) hx hb dX10_canApart_49 rfl hl (by decide) rfl (fun ls hl => ?_)
          obtain ⟨x2_13, ex2_13, h⟩ := pl_ok h
          refine lv_iinc (v := x2_13) (lv' := [(2, .int x2_13), (1, .int (0 : Int32)), (0, .ref q_t)]) hx hb dX10_canApart_50 hl (k := 2) rfl (by rw [ex2_13]; rfl) (by decide) rfl (fun ls hl => ?_)
          refine lv_goto (tgt := 25) hx hb dX10_canApart_53 (by decide) ?_
          obtain rfl := sm1 h
          exact ih (0 : Int32) x2_13 hk H locs ls hP hD hS (lv_sub hl [2, 1, 0] rfl)
        · replace h := it_f h c_12
          refine lv_iconst (v := 1) hx hb dX10_canApart_44 (by decide) ?_
          refine lv_goto (tgt := 49) hx hb dX10_canApart_45 (by decide) ?_
          refine lv_istore_n (lv' := [(1, .int (1 : Int32)), (0, .ref q_t), (2, .int x2)]) hx hb dX10_canApart_49 rfl hl (by decide) rfl (fun ls hl => ?_)
          obtain ⟨x2_14, ex2_14, h⟩ := pl_ok h
          refine lv_iinc (v := x2_14) (lv' := [(2, .int x2_14), (1, .int (1 : Int32)), (0, .ref q_t)]) hx hb dX10_canApart_50 hl (k := 2) rfl (by rw [ex2_14]; rfl) (by decide) rfl (fun ls hl => ?_)
          refine lv_goto (tgt := 25) hx hb dX10_canApart_53 (by decide) ?_
          obtain rfl := sm1 h
          exact ih (1 : Int32) x2_14 hk H locs ls hP hD hS (lv_sub hl [2, 1, 0] rfl)
set_option maxHeartbeats 4000000 in
set_option maxRecDepth 100000 in
theorem k_X10_canApart {p : Program} {l : Launch} {e : Env} {s : State} {m : MethodId} {args : Array Value} {below : List Frame} {meth : Method} {c : Code} {Q : State → Prop} {A0 : Nat → Prop} {H0 : Heap} (C : CallFix p m c cX10_canApart 3 s args wsX10_canApart RX10) (G : GT) (hK : gK G s) (hA : ∀ q : Nat, H0.size ≤ q → A0 q) (q_t q_t_z q_t_old q_t_past q_t_kept q_t_text q_t_order q_t_told q_t_rowsTaken q_t_columnsTaken q_t_ways q_t_scaled q_t_rowFactors q_t_columnFactors q_t_rest q_t_diagonals q_t_weights : Nat) (t_states : Int32) (t_isKept : Int32) (t_length : Int32) (t_spot : Int32) (t_toldRows : Int32) (t_z : Nat → Int32) (r : Int32) (h : f_X10_canApart t_z = some r) (KR : ∀ (H : Heap) (locs : List Loc) (ls : Array Slot) (pc : Nat), decode cX10_canApart pc = .ok (.ireturn, 1) → (r = 0 ∨ r = 1) → va_P G.1 vwCl [(q_t, .inr (9, [.ref q_t_z, .ref q_t_old, .ref q_t_past, .int t_states, .ref q_t_kept, .int t_isKept, .ref q_t_text, .int t_length, .ref q_t_order, .ref q_t_told, .int t_spot, .int t_toldRows, .ref q_t_rowsTaken, .ref q_t_columnsTaken, .ref q_t_ways, .ref q_t_scaled, .ref q_t_rowFactors, .ref q_t_columnFactors, .ref q_t_rest, .ref q_t_diagonals, .ref q_t_weights])), (q_t_z, .inl (G.2 0, 50, .inl t_z))] H → va_D A0 [(q_t, .inr (9, [.ref q_t_z, .ref q_t_old, .ref q_t_past, .int t_states, .ref q_t_kept, .int t_isKept, .ref q_t_text, .int t_length, .ref q_t_order, .ref q_t_told, .int t_spot, .int t_toldRows, .ref q_t_rowsTaken, .ref q_t_columnsTaken, .ref q_t_ways, .ref q_t_scaled, .ref q_t_rowFactors, .ref q_t_columnFactors, .ref q_t_rest, .ref q_t_diagonals, .ref q_t_weights])), (q_t_z, .inl (G.2 0, 50, .inl t_z))] → va_S A0 H0 H locs → W p l e ({ frames := 3, cells := 0, slots := 0, locals := 68 } : Room) s m args below meth c H locs 0 0 Q (F0 m pc ls [.int r])) : ∀ (H : Heap) (locs : List Loc) (ls : Array Slot), va_P G.1 vwCl [(q_t, .inr (9, [.ref q_t_z, .ref q_t_old, .ref q_t_past, .int t_states, .ref q_t_kept, .int t_isKept, .ref q_t_text, .int t_length, .ref q_t_order, .ref q_t_told, .int t_spot, .int t_toldRows, .ref q_t_rowsTaken, .ref q_t_columnsTaken, .ref q_t_ways, .ref q_t_scaled, .ref q_t_rowFactors, .ref q_t_columnFactors, .ref q_t_rest, .ref q_t_diagonals, .ref q_t_weights])), (q_t_z, .inl (G.2 0, 50, .inl t_z))] H → va_D A0 [(q_t, .inr (9, [.ref q_t_z, .ref q_t_old, .ref q_t_past, .int t_states, .ref q_t_kept, .int t_isKept, .ref q_t_text, .int t_length, .ref q_t_order, .ref q_t_told, .int t_spot, .int t_toldRows, .ref q_t_rowsTaken, .ref q_t_columnsTaken, .ref q_t_ways, .ref q_t_scaled, .ref q_t_rowFactors, .ref q_t_columnFactors, .ref q_t_rest, .ref q_t_diagonals, .ref q_t_weights])), (q_t_z, .inl (G.2 0, 50, .inl t_z))] → va_S A0 H0 H locs → lv_has ls 3 [(0, .ref q_t)] → W p l e ({ frames := 3, cells := 0, slots := 0, locals := 68 } : Room) s m args below meth c H locs 0 0 Q (F0 m 0 ls []) := by
  obtain ⟨hx, hb, hml, hown, hts⟩ := C
  intro H locs ls hP hD hS hl
  rw [f_X10_canApart] at h
  refine lv_aload_n hx hb dX10_canApart_0 rfl (lv_at hl 0 rfl) ?_
  obtain ⟨r_1, hf_2, h⟩ := bd_ok h
  refine ck_Vi (rest := []) (wn := [(q_t, .inr (9, [.ref q_t_z, .ref q_t_old, .ref q_t_past, .int t_states, .ref q_t_kept, .int t_isKept, .ref q_t_text, .int t_length, .ref q_t_order, .ref q_t_told, .int t_spot, .int t_toldRows, .ref q_t_rowsTaken, .ref q_t_columnsTaken, .ref q_t_ways, .ref q_t_scaled, .ref q_t_rowFactors, .ref q_t_columnFactors, .ref q_t_rest, .ref q_t_diagonals, .ref q_t_weights])), (q_t_z, .inl (G.2 0, 50, .inl t_z))]) ⟨hx, hb, hml, hown, hts⟩ hK hP hD hS hA [0, 1] [] [0, 1] (c_X10_areSumsLike l G q_t q_t_z q_t_old q_t_past q_t_kept q_t_text q_t_order q_t_told q_t_rowsTaken q_t_columnsTaken q_t_ways q_t_scaled q_t_rowFactors q_t_columnFactors q_t_rest q_t_diagonals q_t_weights _ t_states t_isKept t_length t_spot t_toldRows t_z _ hf_2) (cwV 0 hts gX10_canApart_X10_areSumsLike rfl rfl rfl (by decide +kernel) ⟨Nat.le_of_ble_eq_true rfl, Nat.le_of_ble_eq_true rfl⟩) rfl rfl rfl rfl rfl rfl (by decide) rfl rfl rfl hl.1 rfl (Nat.le_of_ble_eq_true rfl) dX10_canApart_1 ⟨Nat.zero_le _, Nat.zero_le _⟩ (fun H locs hP hD hS => ?_)
  obtain ⟨y_4, hr, h⟩ := bd_ok h
  have J : ∀ (H : Heap) (locs : List Loc) (ls : Array Slot), va_P G.1 vwCl [(q_t, .inr (9, [.ref q_t_z, .ref q_t_old, .ref q_t_past, .int t_states, .ref q_t_kept, .int t_isKept, .ref q_t_text, .int t_length, .ref q_t_order, .ref q_t_told, .int t_spot, .int t_toldRows, .ref q_t_rowsTaken, .ref q_t_columnsTaken, .ref q_t_ways, .ref q_t_scaled, .ref q_t_rowFactors, .ref q_t_columnFactors, .ref q_t_rest, .ref q_t_diagonals, .ref q_t_weights])), (q_t_z, .inl (G.2 0, 50, .inl t_z))] H → va_D A0 [(q_t, .inr (9, [.ref q_t_z, .ref q_t_old, .ref q_t_past, .int t_states, .ref q_t_kept, .int t_isKept, .ref q_t_text, .int t_length, .ref q_t_order, .ref q_t_told, .int t_spot, .int t_toldRows, .ref q_t_rowsTaken, .ref q_t_columnsTaken, .ref q_t_ways, .ref q_t_scaled, .ref q_t_rowFactors, .ref q_t_columnFactors, .ref q_t_rest, .ref q_t_diagonals, .ref q_t_weights])), (q_t_z, .inl (G.2 0, 50, .inl t_z))] → va_S A0 H0 H locs → lv_has ls 3 [(0, .ref q_t)] → W p l e ({ frames := 3, cells := 0, slots := 0, locals := 68 } : Room) s m args below meth c H locs 0 0 Q (F0 m 22 ls [.int y_4]) := by
    intro H locs ls hP hD hS hl
    refine lv_istore_n (lv' := [(1, .int y_4), (0, .ref q_t)]) hx hb dX10_canApart_22 rfl hl (by decide) rfl (fun ls hl => ?_)
    refine lv_iconst (v := 0) hx hb dX10_canApart_23 (by decide) ?_
    refine lv_istore_n (lv' := [(2, .int (0 : Int32)), (1, .int y_4), (0, .ref q_t)]) hx hb dX10_canApart_24 rfl hl (by decide) rfl (fun ls hl => ?_)
    obtain ⟨x1_15, hz_17, h⟩ := bd_ok h
    refine l_X10_canApart_1 ⟨hx, hb, hml, hown, hts⟩ G hK hA q_t q_t_z q_t_old q_t_past q_t_kept q_t_text q_t_order q_t_told q_t_rowsTaken q_t_columnsTaken q_t_ways q_t_scaled q_t_rowFactors q_t_columnFactors q_t_rest q_t_diagonals q_t_weights t_states t_isKept t_length t_spot t_toldRows t_z x1_15 ?_ FU y_4 (0 : Int32) hz_17 H locs ls hP hD hS (lv_sub hl [2, 1, 0] rfl)
    intro H locs ls hP hD hS hl
    refine lv_iload_n hx hb dX10_canApart_56 rfl (lv_at hl 0 rfl) ?_
    obtain ⟨g_18, h⟩ := gd_ok h
    obtain rfl := sm1 h
    exact KR H locs ls 57 dX10_canApart_57 g_18 hP hD hS
  replace h := hr
  clear hr
  refine lv_if_eq (tgt := 21) hx hb dX10_canApart_4 (by decide) (fun c_3 => ?_) (fun c_3 => ?_)
  · replace h := it_t h c_3
    refine lv_iconst (v := 0) hx hb dX10_canApart_21 (by decide) ?_
    obtain rfl := sm1 h
    exact J H locs ls hP hD hS (lv_sub hl [0] rfl)
  · replace h := it_f h c_3
    refine lv_aload_n hx hb dX10_canApart_7 rfl (lv_at hl 0 rfl) ?_
    refine lv_iconst (v := 0) hx hb dX10_canApart_8 (by decide) ?_
    refine lv_iconst (v := 0) hx hb dX10_canApart_9 (by decide) ?_
    obtain ⟨r_5, hf_6, h⟩ := bd_ok h
    refine ck_Vi (rest := []) (wn := [(q_t, .inr (9, [.ref q_t_z, .ref q_t_old, .ref q_t_past, .int t_states, .ref q_t_kept, .int t_isKept, .ref q_t_text, .int t_length, .ref q_t_order, .ref q_t_told, .int t_spot, .int t_toldRows, .ref q_t_rowsTaken, .ref q_t_columnsTaken, .ref q_t_ways, .ref q_t_scaled, .ref q_t_rowFactors, .ref q_t_columnFactors, .ref q_t_rest, .ref q_t_diagonals, .ref q_t_weights])), (q_t_z, .inl (G.2 0, 50, .inl t_z))]) ⟨hx, hb, hml, hown, hts⟩ hK hP hD hS hA [0, 1] [] [0, 1] (c_X10_sumOfLine l G q_t q_t_z q_t_old q_t_past q_t_kept q_t_text q_t_order q_t_told q_t_rowsTaken q_t_columnsTaken q_t_ways q_t_scaled q_t_rowFactors q_t_columnFactors q_t_rest q_t_diagonals q_t_weights _ t_states t_isKept t_length t_spot t_toldRows t_z (0 : Int32) (0 : Int32) _ hf_6) (cwV 2 hts gX10_canApart_X10_sumOfLine rfl rfl rfl (by decide +kernel) ⟨Nat.le_of_ble_eq_true rfl, Nat.le_of_ble_eq_true rfl⟩) rfl rfl rfl rfl rfl rfl (by decide) rfl rfl rfl hl.1 rfl (Nat.le_of_ble_eq_true rfl) dX10_canApart_10 ⟨Nat.zero_le _, Nat.zero_le _⟩ (fun H locs hP hD hS => ?_)
    refine lv_iconst (v := 1) hx hb dX10_canApart_13 (by decide) ?_
    refine lv_icmp_lt (tgt := 21) hx hb dX10_canApart_14 (by decide) (fun c_7 => ?_) (fun c_7 => ?_)
    · replace h := it_t h c_7
      refine lv_iconst (v := 0) hx hb dX10_canApart_21 (by decide) ?_
      obtain rfl := sm1 h
      exact J H locs ls hP hD hS (lv_sub hl [0] rfl)
    · replace h := it_f h c_7
      refine lv_iconst (v := 1) hx hb dX10_canApart_17 (by decide) ?_
      refine lv_goto (tgt := 22) hx hb dX10_canApart_18 (by decide) ?_
      obtain rfl := sm1 h
      exact J H locs ls hP hD hS (lv_sub hl [0] rfl)
set_option maxHeartbeats 4000000 in
set_option maxRecDepth 100000 in
theorem c_X10_canApart (l : Launch) (G : GT) (q_t q_t_z q_t_old q_t_past q_t_kept q_t_text q_t_order q_t_told q_t_rowsTaken q_t_columnsTaken q_t_ways q_t_scaled q_t_rowFactors q_t_columnFactors q_t_rest q_t_diagonals q_t_weights : Nat) (sz : Nat) (t_states : Int32) (t_isKept : Int32) (t_length : Int32) (t_spot : Int32) (t_toldRows : Int32) (t_z : Nat → Int32) (r : Int32) (h : f_X10_canApart t_z = some r) : Met l yX10_canApart wsX10_canApart ({ frames := 3, cells := 0, slots := 0, locals := 68 } : Room) (va_Pc [.ref q_t] (pcW G [(q_t, .inr (9, [.ref q_t_z, .ref q_t_old, .ref q_t_past, .int t_states, .ref q_t_kept, .int t_isKept, .ref q_t_text, .int t_length, .ref q_t_order, .ref q_t_told, .int t_spot, .int t_toldRows, .ref q_t_rowsTaken, .ref q_t_columnsTaken, .ref q_t_ways, .ref q_t_scaled, .ref q_t_rowFactors, .ref q_t_columnFactors, .ref q_t_rest, .ref q_t_diagonals, .ref q_t_weights])), (q_t_z, .inl (G.2 0, 50, .inl t_z))] sz)) (va_Qi (fun r9 (_ : Unit) => r9 = r) (fun _ t => atW G (va_A [(q_t, .inr (9, [.ref q_t_z, .ref q_t_old, .ref q_t_past, .int t_states, .ref q_t_kept, .int t_isKept, .ref q_t_text, .int t_length, .ref q_t_order, .ref q_t_told, .int t_spot, .int t_toldRows, .ref q_t_rowsTaken, .ref q_t_columnsTaken, .ref q_t_ways, .ref q_t_scaled, .ref q_t_rowFactors, .ref q_t_columnFactors, .ref q_t_rest, .ref q_t_diagonals, .ref q_t_weights])), (q_t_z, .inl (G.2 0, 50, .inl t_z))] sz) [(q_t, .inr (9, [.ref q_t_z, .ref q_t_old, .ref q_t_past, .int t_states, .ref q_t_kept, .int t_isKept, .ref q_t_text, .int t_length, .ref q_t_order, .ref q_t_told, .int t_spot, .int t_toldRows, .ref q_t_rowsTaken, .ref q_t_columnsTaken, .ref q_t_ways, .ref q_t_scaled, .ref q_t_rowFactors, .ref q_t_columnFactors, .ref q_t_rest, .ref q_t_diagonals, .ref q_t_weights])), (q_t_z, .inl (G.2 0, 50, .inl t_z))] t) (va_A [(q_t, .inr (9, [.ref q_t_z, .ref q_t_old, .ref q_t_past, .int t_states, .ref q_t_kept, .int t_isKept, .ref q_t_text, .int t_length, .ref q_t_order, .ref q_t_told, .int t_spot, .int t_toldRows, .ref q_t_rowsTaken, .ref q_t_columnsTaken, .ref q_t_ways, .ref q_t_scaled, .ref q_t_rowFactors, .ref q_t_columnFactors, .ref q_t_rest, .ref q_t_diagonals, .ref q_t_weights])), (q_t_z, .inl (G.2 0, 50, .inl t_z))] sz)) 0 0 (va_A [(q_t, .inr (9, [.ref q_t_z, .ref q_t_old, .ref q_t_past, .int t_states, .ref q_t_kept, .int t_isKept, .ref q_t_text, .int t_length, .ref q_t_order, .ref q_t_told, .int t_spot, .int t_toldRows, .ref q_t_rowsTaken, .ref q_t_columnsTaken, .ref q_t_ways, .ref q_t_scaled, .ref q_t_rowFactors, .ref q_t_columnFactors, .ref q_t_rest, .ref q_t_diagonals, .ref q_t_weights])), (q_t_z, .inl (G.2 0, 50, .inl t_z))] sz) := by
  refine Met.ofW (cc := cX10_canApart) (maxL := 3) (ret := (some .boolean)) (by decide) rfl ?_
  intro p e s m args below meth c s₁ B hml hv
  obtain ⟨rfl, hsz, hP, hK, hD0⟩ := hv
  subst hsz
  have hD := hD0.self (sz := s.heap.size)
  generalize hAe : va_A [(q_t, .inr (9, [.ref q_t_z, .ref q_t_old, .ref q_t_past, .int t_states, .ref q_t_kept, .int t_isKept, .ref q_t_text, .int t_length, .ref q_t_order, .ref q_t_told, .int t_spot, .int t_toldRows, .ref q_t_rowsTaken, .ref q_t_columnsTaken, .ref q_t_ways, .ref q_t_scaled, .ref q_t_rowFactors, .ref q_t_columnFactors, .ref q_t_rest, .ref q_t_diagonals, .ref q_t_weights])), (q_t_z, .inl (G.2 0, 50, .inl t_z))] s.heap.size = A at hD ⊢
  have hA : ∀ q : Nat, s.heap.size ≤ q → A q := fun q h => by rw [← hAe]; exact Or.inr h
  have hl := lv_entry ([.ref q_t]) (n := 3) (Nat.le_of_ble_eq_true rfl)
  rw [lg_entry_eq]
  refine k_X10_canApart ⟨B.exec, B.bytes, hml, findClass_of_methodNamed B.named, atoms_spec (ws := wsX10_canApart) B.pre⟩ G hK hA q_t q_t_z q_t_old q_t_past q_t_kept q_t_text q_t_order q_t_told q_t_rowsTaken q_t_columnsTaken q_t_ways q_t_scaled q_t_rowFactors q_t_columnFactors q_t_rest q_t_diagonals q_t_weights _ _ _ _ _ _ _ h ?_ _ _ _ hP hD va_S.rf hl
  intro H locs ls pc hd hbo hP hD hS
  exact W.zret B.exec B.bytes B.returns (by rcases hbo with e | e <;> subst e <;> rfl) (fun t ht hW => ⟨⟨r, (), rfl, rfl, by rw [ht]; exact hP, hD⟩, hS.F ht⟩) hS.2.2 hd B.notSynchronized
set_option maxRecDepth 20000 in
theorem wd_X10_leastOnOrder_1 : Cond.fieldLink RX10 50 "PermanentDeskModel" "rest" "[I" ∈ wsX10_leastOnOrder := List.mem_of_getElem? (i := 1) (by decide +kernel)
set_option maxRecDepth 20000 in
theorem wi_X10_leastOnOrder_X10 : ∀ w ∈ u_ws RX10 TX10 21, w ∈ wsX10_leastOnOrder := by decide +kernel
set_option maxRecDepth 20000 in
theorem wd_X10_leastOnOrder_2 : Cond.fieldLink RX10 25 "PermanentDeskModel" "order" "[I" ∈ wsX10_leastOnOrder := List.mem_of_getElem? (i := 2) (by decide +kernel)
set_option maxRecDepth 20000 in
theorem wd_X10_leastOnOrder_3 : Cond.fieldLink RX10 7 "PermanentDeskModel" "z" "[I" ∈ wsX10_leastOnOrder := List.mem_of_getElem? (i := 3) (by decide +kernel)
def f_X10_leastOnOrder_L1 (t_z : Nat → Int32) (t_order : Nat → Int32) (t_rest : Nat → Int32) : (Int32 × Int32) → Option ((Int32 × Int32) ⊕ Int32)
  | (x1, x2) =>
    gd (okI (49 : Int32) 50) (
    if (t_z (49 : Int32).toNatClampNeg) ≤ x2 then
      some (.inr x1)
    else
      gd (okI x2 7) (
      gd (okI (((7 : Int32) * x2) + (t_order x2.toNatClampNeg)) 49) (
      pl ((t_rest (((7 : Int32) * x2) + (t_order x2.toNatClampNeg)).toNatClampNeg) : Int32) (fun x3_8 =>
      if x1 ≤ x3_8 then
        pl ((x2 + (1 : Int32)) : Int32) (fun x2_10 =>
        some (.inl (x1, x2_10)))
      else
        pl ((x2 + (1 : Int32)) : Int32) (fun x2_11 =>
        some (.inl (x3_8, x2_11)))))))
def f_X10_leastOnOrder (t_z : Nat → Int32) (t_order : Nat → Int32) (t_rest : Nat → Int32) : Option Int32 :=
  gd (okI (0 : Int32) 7) (
  gd (okI (t_order (0 : Int32).toNatClampNeg) 49) (
  pl ((t_rest (t_order (0 : Int32).toNatClampNeg).toNatClampNeg) : Int32) (fun x1_3 =>
  (lpN (f_X10_leastOnOrder_L1 t_z t_order t_rest) FU (x1_3, (1 : Int32))).bind (fun x1_12 =>
  some x1_12))))
set_option maxHeartbeats 4000000 in
set_option maxRecDepth 100000 in
theorem l_X10_leastOnOrder_1 {p : Program} {l : Launch} {e : Env} {s : State} {m : MethodId} {args : Array Value} {below : List Frame} {meth : Method} {c : Code} {Q : State → Prop} {A0 : Nat → Prop} {H0 : Heap} (C : CallFix p m c cX10_leastOnOrder 4 s args wsX10_leastOnOrder RX10) (G : GT) (hK : gK G s) (hA : ∀ q : Nat, H0.size ≤ q → A0 q) (q_t q_t_z q_t_old q_t_past q_t_kept q_t_text q_t_order q_t_told q_t_rowsTaken q_t_columnsTaken q_t_ways q_t_scaled q_t_rowFactors q_t_columnFactors q_t_rest q_t_diagonals q_t_weights : Nat) (t_states : Int32) (t_isKept : Int32) (t_length : Int32) (t_spot : Int32) (t_toldRows : Int32) (t_z : Nat → Int32) (t_order : Nat → Int32) (t_rest : Nat → Int32) (E_x1 : Int32) (K : ∀ (H : Heap) (locs : List Loc) (ls : Array Slot), va_P G.1 vwCl [(q_t, .inr (9, [.ref q_t_z, .ref q_t_old, .ref q_t_past, .int t_states, .ref q_t_kept, .int t_isKept, .ref q_t_text, .int t_length, .ref q_t_order, .ref q_t_told, .int t_spot, .int t_toldRows, .ref q_t_rowsTaken, .ref q_t_columnsTaken, .ref q_t_ways, .ref q_t_scaled, .ref q_t_rowFactors, .ref q_t_columnFactors, .ref q_t_rest, .ref q_t_diagonals, .ref q_t_weights])), (q_t_z, .inl (G.2 0, 50, .inl t_z)), (q_t_order, .inl (G.2 0, 7, .inl t_order)), (q_t_rest, .inl (G.2 0, 49, .inl t_rest))] H → va_D A0 [(q_t, .inr (9, [.ref q_t_z, .ref q_t_old, .ref q_t_past, .int t_states, .ref q_t_kept, .int t_isKept, .ref q_t_text, .int t_length, .ref q_t_order, .ref q_t_told, .int t_spot, .int t_toldRows, .ref q_t_rowsTaken, .ref q_t_columnsTaken, .ref q_t_ways, .ref q_t_scaled, .ref q_t_rowFactors, .ref q_t_columnFactors, .ref q_t_rest, .ref q_t_diagonals, .ref q_t_weights])), (q_t_z, .inl (G.2 0, 50, .inl t_z)), (q_t_order, .inl (G.2 0, 7, .inl t_order)), (q_t_rest, .inl (G.2 0, 49, .inl t_rest))] → va_S A0 H0 H locs → lv_has ls 4 [(1, .int E_x1)] → W p l e ({ frames := 0, cells := 0, slots := 0, locals := 0 } : Room) s m args below meth c H locs 0 0 Q (F0 m 59 ls [])) : ∀ (n : Nat) (x1 : Int32) (x2 : Int32), lpN (f_X10_leastOnOrder_L1 t_z t_order t_rest) n (x1, x2) = some E_x1 → ∀ (H : Heap) (locs : List Loc) (ls : Array Slot), va_P G.1 vwCl [(q_t, .inr (9, [.ref q_t_z, .ref q_t_old, .ref q_t_past, .int t_states, .ref q_t_kept, .int t_isKept, .ref q_t_text, .int t_length, .ref q_t_order, .ref q_t_told, .int t_spot, .int t_toldRows, .ref q_t_rowsTaken, .ref q_t_columnsTaken, .ref q_t_ways, .ref q_t_scaled, .ref q_t_rowFactors, .ref q_t_columnFactors, .ref q_t_rest, .ref q_t_diagonals, .ref q_t_weights])), (q_t_z, .inl (G.2 0, 50, .inl t_z)), (q_t_order, .inl (G.2 0, 7, .inl t_order)), (q_t_rest, .inl (G.2 0, 49, .inl t_rest))] H → va_D A0 [(q_t, .inr (9, [.ref q_t_z, .ref q_t_old, .ref q_t_past, .int t_states, .ref q_t_kept, .int t_isKept, .ref q_t_text, .int t_length, .ref q_t_order, .ref q_t_told, .int t_spot, .int t_toldRows, .ref q_t_rowsTaken, .ref q_t_columnsTaken, .ref q_t_ways, .ref q_t_scaled, .ref q_t_rowFactors, .ref q_t_columnFactors, .ref q_t_rest, .ref q_t_diagonals, .ref q_t_weights])), (q_t_z, .inl (G.2 0, 50, .inl t_z)), (q_t_order, .inl (G.2 0, 7, .inl t_order)), (q_t_rest, .inl (G.2 0, 49, .inl t_rest))] → va_S A0 H0 H locs → lv_has ls 4 [(0, .ref q_t), (1, .int x1), (2, .int x2)] → W p l e ({ frames := 0, cells := 0, slots := 0, locals := 0 } : Room) s m args below meth c H locs 0 0 Q (F0 m 14 ls []) := by
  obtain ⟨hx, hb, hml, hown, hts⟩ := C
  intro n
  induction n with
  | zero => intro x1 x2 h; exact absurd h (fun h => lp_0 h)
  | succ n ih =>
    intro x1 x2 h H locs ls hP hD hS hl
    obtain ⟨y, h, hk⟩ := lp_s h
    rw [f_X10_leastOnOrder_L1] at h
    refine lv_iload_n hx hb dX10_leastOnOrder_14 rfl (lv_at hl 2 rfl) ?_
    refine lv_aload_n hx hb dX10_leastOnOrder_15 rfl (lv_at hl 0 rfl) ?_
    refine va_get (D := G.1) (ci := 9) (v := .ref q_t_z) (C := RX10) (T := TX10) (N := 21) hx hb hts wi_X10_leastOnOrder_X10 hown hK hP 0 rfl rfl 0 (by decide) (hts _ wd_X10_leastOnOrder_3) (fun _ h9 => h9) rfl dX10_leastOnOrder_16 ?_
    refine lv_bipush (v := 49) hx hb dX10_leastOnOrder_19 (by decide) ?_
    obtain ⟨g_4, h⟩ := gd_ok h
    refine va_iald (D := G.1) hx hb hK hP 1 0 rfl rfl g_4 dX10_leastOnOrder_21 ?_
    refine lv_icmp_ge (tgt := 59) hx hb dX10_leastOnOrder_22 (by decide) (fun c_5 => ?_) (fun c_5 => ?_)
    · replace h := it_t h c_5
      obtain rfl := sm1 h
      obtain rfl := sm1 hk
      exact K H locs ls hP hD hS (lv_sub hl [1] rfl)
    · replace h := it_f h c_5
      refine lv_aload_n hx hb dX10_leastOnOrder_25 rfl (lv_at hl 0 rfl) ?_
      refine va_get (D := G.1) (ci := 9) (v := .ref q_t_rest) (C := RX10) (T := TX10) (N := 21) hx hb hts wi_X10_leastOnOrder_X10 hown hK hP 0 rfl rfl 18 (by decide) (hts _ wd_X10_leastOnOrder_1) (fun _ h9 => h9) rfl dX10_leastOnOrder_26 ?_
      refine lv_bipush (v := 7) hx hb dX10_leastOnOrder_29 (by decide) ?_
      refine lv_iload_n hx hb dX10_leastOnOrder_31 rfl (lv_at hl 2 rfl) ?_
      refine lv_imul hx hb dX10_leastOnOrder_32 ?_
      refine lv_aload_n hx hb dX10_leastOnOrder_33 rfl (lv_at hl 0 rfl) ?_
      refine va_get (D := G.1) (ci := 9) (v := .ref q_t_order) (C := RX10) (T := TX10) (N := 21) hx hb hts wi_X10_leastOnOrder_X10 hown hK hP 0 rfl rfl 8 (by decide) (hts _ wd_X10_leastOnOrder_2) (fun _ h9 => h9) rfl dX10_leastOnOrder_34 ?_
      refine lv_iload_n hx hb dX10_leastOnOrder_37 rfl (lv_at hl 2 rfl) ?_
      obtain ⟨g_6, h⟩ := gd_ok h
      refine va_iald (D := G.1) hx hb hK hP 2 0 rfl rfl g_6 dX10_leastOnOrder_38 ?_
      refine lv_iadd hx hb dX10_leastOnOrder_39 ?_
      obtain ⟨g_7, h⟩ := gd_ok h
      refine va_iald (D := G.1) hx hb hK hP 3 0 rfl rfl g_7 dX10_leastOnOrder_40 ?_
      refine lv_topi (fun x3_8 ex3_8 => ?_)
      replace h := pl_v h ex3_8
      refine lv_istore_n (lv' := [(3, .int x3_8), (0, .ref q_t), (1, .int x1), (2, .int x2)]) hx hb dX10_leastOnOrder_41 rfl hl (by decide) rfl (fun ls hl => ?_)
      refine lv_iload_n hx hb dX10_leastOnOrder_42 rfl (lv_at hl 0 rfl) ?_
      refine lv_iload_n hx hb dX10_leastOnOrder_43 rfl (lv_at hl 2 rfl) ?_
      refine lv_icmp_ge (tgt := 51) hx hb dX10_leastOnOrder_44 (by decide) (fun c_9 => ?_) (fun c_9 => ?_)
      · replace h := it_t h c_9
        refine lv_iload_n hx hb dX10_leastOnOrder_51 rfl (lv_at hl 2 rfl) ?_
        refine lv_istore_n (lv' := [(1, .int x1), (3, .int x3_8), (0, .ref q_t), (2, .int x2)]) hx hb dX10_leastOnOrder_52 rfl hl (by decide) rfl (fun ls hl => ?_)
        obtain ⟨x2_10, ex2_10, h⟩ := pl_ok h
        refine lv_iinc (v := x2_10) (lv' := [(2, .int x2_10), (1, .int x1), (3, .int x3_8), (0, .ref q_t)]) hx hb dX10_leastOnOrder_53 hl (k := 3) rfl (by rw [ex2_10]; rfl) (by decide) rfl (fun ls hl => ?_)
        refine lv_goto (tgt := 14) hx hb dX10_leastOnOrder_56 (by decide) ?_
        obtain rfl := sm1 h
        exact ih x1 x2_10 hk H locs ls hP hD hS (lv_sub hl [3, 1, 0] rfl)
      · replace h := it_f h c_9
        refine lv_iload_n hx hb dX10_leastOnOrder_47 rfl (lv_at hl 0 rfl) ?_
        refine lv_goto (tgt := 52) hx hb dX10_leastOnOrder_48 (by decide) ?_
        refine lv_istore_n (lv' := [(1, .int x3_8), (3, .int x3_8), (0, .ref q_t), (2, .int x2)]) hx hb dX10_leastOnOrder_52 rfl hl (by decide) rfl (fun ls hl => ?_)
        obtain ⟨x2_11, ex2_11, h⟩ := pl_ok h
        refine lv_iinc (v := x2_11) (lv' := [(2, .int x2_11), (1, .int x3_8), (3, .int x3_8), (0, .ref q_t)]) hx hb dX10_leastOnOrder_53 hl (k := 3) rfl (by rw [ex2_11]; rfl) (by decide) rfl (fun ls hl => ?_)
        refine lv_goto (tgt := 14) hx hb dX10_leastOnOrder_56 (by decide) ?_
        obtain rfl := sm1 h
        exact ih x3_8 x2_11 hk H locs ls hP hD hS (lv_sub hl [3, 1, 0] rfl)
set_option maxHeartbeats 4000000 in
set_option maxRecDepth 100000 in
theorem k_X10_leastOnOrder {p : Program} {l : Launch} {e : Env} {s : State} {m : MethodId} {args : Array Value} {below : List Frame} {meth : Method} {c : Code} {Q : State → Prop} {A0 : Nat → Prop} {H0 : Heap} (C : CallFix p m c cX10_leastOnOrder 4 s args wsX10_leastOnOrder RX10) (G : GT) (hK : gK G s) (hA : ∀ q : Nat, H0.size ≤ q → A0 q) (q_t q_t_z q_t_old q_t_past q_t_kept q_t_text q_t_order q_t_told q_t_rowsTaken q_t_columnsTaken q_t_ways q_t_scaled q_t_rowFactors q_t_columnFactors q_t_rest q_t_diagonals q_t_weights : Nat) (t_states : Int32) (t_isKept : Int32) (t_length : Int32) (t_spot : Int32) (t_toldRows : Int32) (t_z : Nat → Int32) (t_order : Nat → Int32) (t_rest : Nat → Int32) (r : Int32) (h : f_X10_leastOnOrder t_z t_order t_rest = some r) (KR : ∀ (H : Heap) (locs : List Loc) (ls : Array Slot) (pc : Nat), decode cX10_leastOnOrder pc = .ok (.ireturn, 1) → va_P G.1 vwCl [(q_t, .inr (9, [.ref q_t_z, .ref q_t_old, .ref q_t_past, .int t_states, .ref q_t_kept, .int t_isKept, .ref q_t_text, .int t_length, .ref q_t_order, .ref q_t_told, .int t_spot, .int t_toldRows, .ref q_t_rowsTaken, .ref q_t_columnsTaken, .ref q_t_ways, .ref q_t_scaled, .ref q_t_rowFactors, .ref q_t_columnFactors, .ref q_t_rest, .ref q_t_diagonals, .ref q_t_weights])), (q_t_z, .inl (G.2 0, 50, .inl t_z)), (q_t_order, .inl (G.2 0, 7, .inl t_order)), (q_t_rest, .inl (G.2 0, 49, .inl t_rest))] H → va_D A0 [(q_t, .inr (9, [.ref q_t_z, .ref q_t_old, .ref q_t_past, .int t_states, .ref q_t_kept, .int t_isKept, .ref q_t_text, .int t_length, .ref q_t_order, .ref q_t_told, .int t_spot, .int t_toldRows, .ref q_t_rowsTaken, .ref q_t_columnsTaken, .ref q_t_ways, .ref q_t_scaled, .ref q_t_rowFactors, .ref q_t_columnFactors, .ref q_t_rest, .ref q_t_diagonals, .ref q_t_weights])), (q_t_z, .inl (G.2 0, 50, .inl t_z)), (q_t_order, .inl (G.2 0, 7, .inl t_order)), (q_t_rest, .inl (G.2 0, 49, .inl t_rest))] → va_S A0 H0 H locs → W p l e ({ frames := 0, cells := 0, slots := 0, locals := 0 } : Room) s m args below meth c H locs 0 0 Q (F0 m pc ls [.int r])) : ∀ (H : Heap) (locs : List Loc) (ls : Array Slot), va_P G.1 vwCl [(q_t, .inr (9, [.ref q_t_z, .ref q_t_old, .ref q_t_past, .int t_states, .ref q_t_kept, .int t_isKept, .ref q_t_text, .int t_length, .ref q_t_order, .ref q_t_told, .int t_spot, .int t_toldRows, .ref q_t_rowsTaken, .ref q_t_columnsTaken, .ref q_t_ways, .ref q_t_scaled, .ref q_t_rowFactors, .ref q_t_columnFactors, .ref q_t_rest, .ref q_t_diagonals, .ref q_t_weights])), (q_t_z, .inl (G.2 0, 50, .inl t_z)), (q_t_order, .inl (G.2 0, 7, .inl t_order)), (q_t_rest, .inl (G.2 0, 49, .inl t_rest))] H → va_D A0 [(q_t, .inr (9, [.ref q_t_z, .ref q_t_old, .ref q_t_past, .int t_states, .ref q_t_kept, .int t_isKept, .ref q_t_text, .int t_length, .ref q_t_order, .ref q_t_told, .int t_spot, .int t_toldRows, .ref q_t_rowsTaken, .ref q_t_columnsTaken, .ref q_t_ways, .ref q_t_scaled, .ref q_t_rowFactors, .ref q_t_columnFactors, .ref q_t_rest, .ref q_t_diagonals, .ref q_t_weights])), (q_t_z, .inl (G.2 0, 50, .inl t_z)), (q_t_order, .inl (G.2 0, 7, .inl t_order)), (q_t_rest, .inl (G.2 0, 49, .inl t_rest))] → va_S A0 H0 H locs → lv_has ls 4 [(0, .ref q_t)] → W p l e ({ frames := 0, cells := 0, slots := 0, locals := 0 } : Room) s m args below meth c H locs 0 0 Q (F0 m 0 ls []) := by
  obtain ⟨hx, hb, hml, hown, hts⟩ := C
  intro H locs ls hP hD hS hl
  rw [f_X10_leastOnOrder] at h
  refine lv_aload_n hx hb dX10_leastOnOrder_0 rfl (lv_at hl 0 rfl) ?_
  refine va_get (D := G.1) (ci := 9) (v := .ref q_t_rest) (C := RX10) (T := TX10) (N := 21) hx hb hts wi_X10_leastOnOrder_X10 hown hK hP 0 rfl rfl 18 (by decide) (hts _ wd_X10_leastOnOrder_1) (fun _ h9 => h9) rfl dX10_leastOnOrder_1 ?_
  refine lv_aload_n hx hb dX10_leastOnOrder_4 rfl (lv_at hl 0 rfl) ?_
  refine va_get (D := G.1) (ci := 9) (v := .ref q_t_order) (C := RX10) (T := TX10) (N := 21) hx hb hts wi_X10_leastOnOrder_X10 hown hK hP 0 rfl rfl 8 (by decide) (hts _ wd_X10_leastOnOrder_2) (fun _ h9 => h9) rfl dX10_leastOnOrder_5 ?_
  refine lv_iconst (v := 0) hx hb dX10_leastOnOrder_8 (by decide) ?_
  obtain ⟨g_1, h⟩ := gd_ok h
  refine va_iald (D := G.1) hx hb hK hP 2 0 rfl rfl g_1 dX10_leastOnOrder_9 ?_
  obtain ⟨g_2, h⟩ := gd_ok h
  refine va_iald (D := G.1) hx hb hK hP 3 0 rfl rfl g_2 dX10_leastOnOrder_10 ?_
  refine lv_topi (fun x1_3 ex1_3 => ?_)
  replace h := pl_v h ex1_3
  refine lv_istore_n (lv' := [(1, .int x1_3), (0, .ref q_t)]) hx hb dX10_leastOnOrder_11 rfl hl (by decide) rfl (fun ls hl => ?_)
  refine lv_iconst (v := 1) hx hb dX10_leastOnOrder_12 (by decide) ?_
  refine lv_istore_n (lv' := [(2, .int (1 : Int32)), (1, .int x1_3), (0, .ref q_t)]) hx hb dX10_leastOnOrder_13 rfl hl (by decide) rfl (fun ls hl => ?_)
  obtain ⟨x1_12, hz_14, h⟩ := bd_ok h
  refine l_X10_leastOnOrder_1 ⟨hx, hb, hml, hown, hts⟩ G hK hA q_t q_t_z q_t_old q_t_past q_t_kept q_t_text q_t_order q_t_told q_t_rowsTaken q_t_columnsTaken q_t_ways q_t_scaled q_t_rowFactors q_t_columnFactors q_t_rest q_t_diagonals q_t_weights t_states t_isKept t_length t_spot t_toldRows t_z t_order t_rest x1_12 ?_ FU x1_3 (1 : Int32) hz_14 H locs ls hP hD hS (lv_sub hl [2, 1, 0] rfl)
  intro H locs ls hP hD hS hl
  refine lv_iload_n hx hb dX10_leastOnOrder_59 rfl (lv_at hl 0 rfl) ?_
  obtain rfl := sm1 h
  exact KR H locs ls 60 dX10_leastOnOrder_60 hP hD hS
set_option maxHeartbeats 4000000 in
set_option maxRecDepth 100000 in
theorem c_X10_leastOnOrder (l : Launch) (G : GT) (q_t q_t_z q_t_old q_t_past q_t_kept q_t_text q_t_order q_t_told q_t_rowsTaken q_t_columnsTaken q_t_ways q_t_scaled q_t_rowFactors q_t_columnFactors q_t_rest q_t_diagonals q_t_weights : Nat) (sz : Nat) (t_states : Int32) (t_isKept : Int32) (t_length : Int32) (t_spot : Int32) (t_toldRows : Int32) (t_z : Nat → Int32) (t_order : Nat → Int32) (t_rest : Nat → Int32) (r : Int32) (h : f_X10_leastOnOrder t_z t_order t_rest = some r) : Met l yX10_leastOnOrder wsX10_leastOnOrder ({ frames := 0, cells := 0, slots := 0, locals := 0 } : Room) (va_Pc [.ref q_t] (pcW G [(q_t, .inr (9, [.ref q_t_z, .ref q_t_old, .ref q_t_past, .int t_states, .ref q_t_kept, .int t_isKept, .ref q_t_text, .int t_length, .ref q_t_order, .ref q_t_told, .int t_spot, .int t_toldRows, .ref q_t_rowsTaken, .ref q_t_columnsTaken, .ref q_t_ways, .ref q_t_scaled, .ref q_t_rowFactors, .ref q_t_columnFactors, .ref q_t_rest, .ref q_t_diagonals, .ref q_t_weights])), (q_t_z, .inl (G.2 0, 50, .inl t_z)), (q_t_order, .inl (G.2 0, 7, .inl t_order)), (q_t_rest, .inl (G.2 0, 49, .inl t_rest))] sz)) (va_Qi (fun r9 (_ : Unit) => r9 = r) (fun _ t => atW G (va_A [(q_t, .inr (9, [.ref q_t_z, .ref q_t_old, .ref q_t_past, .int t_states, .ref q_t_kept, .int t_isKept, .ref q_t_text, .int t_length, .ref q_t_order, .ref q_t_told, .int t_spot, .int t_toldRows, .ref q_t_rowsTaken, .ref q_t_columnsTaken, .ref q_t_ways, .ref q_t_scaled, .ref q_t_rowFactors, .ref q_t_columnFactors, .ref q_t_rest, .ref q_t_diagonals, .ref q_t_weights])), (q_t_z, .inl (G.2 0, 50, .inl t_z)), (q_t_order, .inl (G.2 0, 7, .inl t_order)), (q_t_rest, .inl (G.2 0, 49, .inl t_rest))] sz) [(q_t, .inr (9, [.ref q_t_z, .ref q_t_old, .ref q_t_past, .int t_states, .ref q_t_kept, .int t_isKept, .ref q_t_text, .int t_length, .ref q_t_order, .ref q_t_told, .int t_spot, .int t_toldRows, .ref q_t_rowsTaken, .ref q_t_columnsTaken, .ref q_t_ways, .ref q_t_scaled, .ref q_t_rowFactors, .ref q_t_columnFactors, .ref q_t_rest, .ref q_t_diagonals, .ref q_t_weights])), (q_t_z, .inl (G.2 0, 50, .inl t_z)), (q_t_order, .inl (G.2 0, 7, .inl t_order)), (q_t_rest, .inl (G.2 0, 49, .inl t_rest))] t) (va_A [(q_t, .inr (9, [.ref q_t_z, .ref q_t_old, .ref q_t_past, .int t_states, .ref q_t_kept, .int t_isKept, .ref q_t_text, .int t_length, .ref q_t_order, .ref q_t_told, .int t_spot, .int t_toldRows, .ref q_t_rowsTaken, .ref q_t_columnsTaken, .ref q_t_ways, .ref q_t_scaled, .ref q_t_rowFactors, .ref q_t_columnFactors, .ref q_t_rest, .ref q_t_diagonals, .ref q_t_weights])), (q_t_z, .inl (G.2 0, 50, .inl t_z)), (q_t_order, .inl (G.2 0, 7, .inl t_order)), (q_t_rest, .inl (G.2 0, 49, .inl t_rest))] sz)) 0 0 (va_A [(q_t, .inr (9, [.ref q_t_z, .ref q_t_old, .ref q_t_past, .int t_states, .ref q_t_kept, .int t_isKept, .ref q_t_text, .int t_length, .ref q_t_order, .ref q_t_told, .int t_spot, .int t_toldRows, .ref q_t_rowsTaken, .ref q_t_columnsTaken, .ref q_t_ways, .ref q_t_scaled, .ref q_t_rowFactors, .ref q_t_columnFactors, .ref q_t_rest, .ref q_t_diagonals, .ref q_t_weights])), (q_t_z, .inl (G.2 0, 50, .inl t_z)), (q_t_order, .inl (G.2 0, 7, .inl t_order)), (q_t_rest, .inl (G.2 0, 49, .inl t_rest))] sz) := by
  refine Met.ofW (cc := cX10_leastOnOrder) (maxL := 4) (ret := (some .int)) (by decide) rfl ?_
  intro p e s m args below meth c s₁ B hml hv
  obtain ⟨rfl, hsz, hP, hK, hD0⟩ := hv
  subst hsz
  have hD := hD0.self (sz := s.heap.size)
  generalize hAe : va_A [(q_t, .inr (9, [.ref q_t_z, .ref q_t_old, .ref q_t_past, .int t_states, .ref q_t_kept, .int t_isKept, .ref q_t_text, .int t_length, .ref q_t_order, .ref q_t_told, .int t_spot, .int t_toldRows, .ref q_t_rowsTaken, .ref q_t_columnsTaken, .ref q_t_ways, .ref q_t_scaled, .ref q_t_rowFactors, .ref q_t_columnFactors, .ref q_t_rest, .ref q_t_diagonals, .ref q_t_weights])), (q_t_z, .inl (G.2 0, 50, .inl t_z)), (q_t_order, .inl (G.2 0, 7, .inl t_order)), (q_t_rest, .inl (G.2 0, 49, .inl t_rest))] s.heap.size = A at hD ⊢
  have hA : ∀ q : Nat, s.heap.size ≤ q → A q := fun q h => by rw [← hAe]; exact Or.inr h
  have hl := lv_entry ([.ref q_t]) (n := 4) (Nat.le_of_ble_eq_true rfl)
  rw [lg_entry_eq]
  refine k_X10_leastOnOrder ⟨B.exec, B.bytes, hml, findClass_of_methodNamed B.named, atoms_spec (ws := wsX10_leastOnOrder) B.pre⟩ G hK hA q_t q_t_z q_t_old q_t_past q_t_kept q_t_text q_t_order q_t_told q_t_rowsTaken q_t_columnsTaken q_t_ways q_t_scaled q_t_rowFactors q_t_columnFactors q_t_rest q_t_diagonals q_t_weights _ _ _ _ _ _ _ _ _ h ?_ _ _ _ hP hD va_S.rf hl
  intro H locs ls pc hd hP hD hS
  exact W.iret B.exec B.bytes B.returns (fun t ht hW => ⟨⟨r, (), rfl, rfl, by rw [ht]; exact hP, hD⟩, hS.F ht⟩) hS.2.2 hd B.notSynchronized
