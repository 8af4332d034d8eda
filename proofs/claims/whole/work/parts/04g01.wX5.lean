set_option maxRecDepth 20000 in
theorem wd_X5_greatestGap_1 : Cond.fieldLink RX5 21 "PermanentDesk$Scaling" "size" "I" ∈ wsX5_greatestGap := List.mem_of_getElem? (i := 1) (by decide +kernel)
set_option maxRecDepth 20000 in
theorem wi_X5_greatestGap_X5 : ∀ w ∈ u_ws RX5 TX5 4, w ∈ wsX5_greatestGap := by decide +kernel
def f_X5_greatestGap_L1 (t_size : Int32) (t_cells : Nat → UInt64) : (UInt64 × Int32) → Option ((UInt64 × Int32) ⊕ UInt64)
  | (x1, x3) =>
    if t_size ≤ x3 then
      some (.inr x1)
    else
      (f_X5_sumOfRow t_size t_cells x3).bind (fun r_2 =>
      gd (okD (FP.dsub r_2 FP.dconst1)) (
      pl ((FP.dsub r_2 FP.dconst1) : UInt64) (fun x4_5 =>
      Option.bind (
        if 0 ≤ (Op.cmpValue (FP.dcmp x4_5 FP.dconst0) .g) then
          some x4_5
        else
          some (FP.dneg x4_5)) (fun y_7 =>
      if (Op.cmpValue (FP.dcmp y_7 x1) .l) ≤ 0 then
        pl ((x3 + (1 : Int32)) : Int32) (fun x3_9 =>
        some (.inl (x1, x3_9)))
      else
        pl ((x3 + (1 : Int32)) : Int32) (fun x3_10 =>
        some (.inl (y_7, x3_10)))))))
def f_X5_greatestGap (t_size : Int32) (t_cells : Nat → UInt64) : Option UInt64 :=
  (lpN (f_X5_greatestGap_L1 t_size t_cells) FU (FP.dconst0, (0 : Int32))).bind (fun x1_11 =>
  some x1_11)
set_option maxHeartbeats 4000000 in
set_option maxRecDepth 100000 in
theorem l_X5_greatestGap_1 {p : Program} {l : Launch} {e : Env} {s : State} {m : MethodId} {args : Array Value} {below : List Frame} {meth : Method} {c : Code} {Q : State → Prop} {A0 : Nat → Prop} {H0 : Heap} (C : CallFix p m c cX5_greatestGap 8 s args wsX5_greatestGap RX5) (G : GT) (hK : gK G s) (hA : ∀ q : Nat, H0.size ≤ q → A0 q) (q_t q_t_cells q_t_rowFactors q_t_columnFactors : Nat) (t_size : Int32) (t_cells : Nat → UInt64) (E_x1 : UInt64) (K : ∀ (H : Heap) (locs : List Loc) (ls : Array Slot), va_P G.1 vwCl [(q_t, .inr (4, [.ref q_t_cells, .ref q_t_rowFactors, .ref q_t_columnFactors, .int t_size])), (q_t_cells, .inl (G.2 2, 49, .inr (.inr (.inr (.inl t_cells)))))] H → va_D A0 [(q_t, .inr (4, [.ref q_t_cells, .ref q_t_rowFactors, .ref q_t_columnFactors, .int t_size])), (q_t_cells, .inl (G.2 2, 49, .inr (.inr (.inr (.inl t_cells)))))] → va_S A0 H0 H locs → lv_has ls 8 [(1, .double E_x1)] → W p l e ({ frames := 2, cells := 0, slots := 0, locals := 47 } : Room) s m args below meth c H locs 0 0 Q (F0 m 58 ls [])) : ∀ (n : Nat) (x1 : UInt64) (x3 : Int32), lpN (f_X5_greatestGap_L1 t_size t_cells) n (x1, x3) = some E_x1 → ∀ (H : Heap) (locs : List Loc) (ls : Array Slot), va_P G.1 vwCl [(q_t, .inr (4, [.ref q_t_cells, .ref q_t_rowFactors, .ref q_t_columnFactors, .int t_size])), (q_t_cells, .inl (G.2 2, 49, .inr (.inr (.inr (.inl t_cells)))))] H → va_D A0 [(q_t, .inr (4, [.ref q_t_cells, .ref q_t_rowFactors, .ref q_t_columnFactors, .int t_size])), (q_t_cells, .inl (G.2 2, 49, .inr (.inr (.inr (.inl t_cells)))))] → va_S A0 H0 H locs → lv_has ls 8 [(0, .ref q_t), (1, .double x1), (3, .int x3)] → W p l e ({ frames := 2, cells := 0, slots := 0, locals := 47 } : Room) s m args below meth c H locs 0 0 Q (F0 m 4 ls []) := by
  obtain ⟨hx, hb, hml, hown, hts⟩ := C
  intro n
  induction n with
  | zero => intro x1 x3 h; exact absurd h (fun h => lp_0 h)
  | succ n ih =>
    intro x1 x3 h H locs ls hP hD hS hl
    obtain ⟨y, h, hk⟩ := lp_s h
    rw [f_X5_greatestGap_L1] at h
    refine lv_iload_n hx hb dX5_greatestGap_4 rfl (lv_at hl 2 rfl) ?_
    refine lv_aload_n hx hb dX5_greatestGap_5 rfl (lv_at hl 0 rfl) ?_
    refine va_get (D := G.1) (ci := 4) (v := .int t_size) (C := RX5) (T := TX5) (N := 4) hx hb hts wi_X5_greatestGap_X5 hown hK hP 0 rfl rfl 3 (by decide) (hts _ wd_X5_greatestGap_1) (fun _ h9 => h9) rfl dX5_greatestGap_6 ?_
    refine lv_icmp_ge (tgt := 58) hx hb dX5_greatestGap_9 (by decide) (fun c_1 => ?_) (fun c_1 => ?_)
    · replace h := it_t h c_1
      obtain rfl := sm1 h
      obtain rfl := sm1 hk
      exact K H locs ls hP hD hS (lv_sub hl [1] rfl)
    · replace h := it_f h c_1
      refine lv_aload_n hx hb dX5_greatestGap_12 rfl (lv_at hl 0 rfl) ?_
      refine lv_iload_n hx hb dX5_greatestGap_13 rfl (lv_at hl 2 rfl) ?_
      obtain ⟨r_2, hf_3, h⟩ := bd_ok h
      refine ck_Vd (rest := []) (wn := [(q_t, .inr (4, [.ref q_t_cells, .ref q_t_rowFactors, .ref q_t_columnFactors, .int t_size])), (q_t_cells, .inl (G.2 2, 49, .inr (.inr (.inr (.inl t_cells)))))]) ⟨hx, hb, hml, hown, hts⟩ hK hP hD hS hA [0, 1] [] [0, 1] (c_X5_sumOfRow l G q_t q_t_cells q_t_rowFactors q_t_columnFactors _ t_size t_cells x3 _ hf_3) (cwV 1 hts gX5_greatestGap_X5_sumOfRow rfl rfl rfl (by decide +kernel) ⟨Nat.le_of_ble_eq_true rfl, Nat.le_of_ble_eq_true rfl⟩) rfl rfl rfl rfl rfl rfl (by decide) rfl rfl rfl hl.1 rfl (Nat.le_of_ble_eq_true rfl) dX5_greatestGap_14 ⟨Nat.zero_le _, Nat.zero_le _⟩ (fun H locs hP hD hS => ?_)
      refine lv_dconst1 hx hb dX5_greatestGap_17 ?_
      obtain ⟨g_4, h⟩ := gd_ok h
      refine lv_dsub hx hb dX5_greatestGap_18 g_4 ?_
      refine lv_topd (fun x4_5 ex4_5 => ?_)
      replace h := pl_v h ex4_5
      refine lv_dstore (lv' := [(4, .double x4_5), (0, .ref q_t), (1, .double x1), (3, .int x3)]) hx hb dX5_greatestGap_19 hl (by decide) rfl (fun ls hl => ?_)
      refine lv_dload hx hb dX5_greatestGap_21 (lv_at hl 0 rfl) ?_
      refine lv_dconst0 hx hb dX5_greatestGap_23 ?_
      refine lv_dcmp hx hb dX5_greatestGap_24 ?_
      obtain ⟨y_7, hr, h⟩ := bd_ok h
      have J : ∀ (H : Heap) (locs : List Loc) (ls : Array Slot), va_P G.1 vwCl [(q_t, .inr (4, [.ref q_t_cells, .ref q_t_rowFactors, .ref q_t_columnFactors, .int t_size])), (q_t_cells, .inl (G.2 2, 49, .inr (.inr (.inr (.inl t_cells)))))] H → va_D A0 [(q_t, .inr (4, [.ref q_t_cells, .ref q_t_rowFactors, .ref q_t_columnFactors, .int t_size])), (q_t_cells, .inl (G.2 2, 49, .inr (.inr (.inr (.inl t_cells)))))] → va_S A0 H0 H locs → lv_has ls 8 [(0, .ref q_t), (1, .double x1), (3, .int x3)] → W p l e ({ frames := 2, cells := 0, slots := 0, locals := 47 } : Room) s m args below meth c H locs 0 0 Q (F0 m 36 ls [.double y_7]) := by
        intro H locs ls hP hD hS hl
        refine lv_dstore (lv' := [(6, .double y_7), (0, .ref q_t), (1, .double x1), (3, .int x3)]) hx hb dX5_greatestGap_36 hl (by decide) rfl (fun ls hl => ?_)
        refine lv_dload hx hb dX5_greatestGap_38 (lv_at hl 0 rfl) ?_
        refine lv_dload_n hx hb dX5_greatestGap_40 rfl (lv_at hl 2 rfl) ?_
        refine lv_dcmp hx hb dX5_greatestGap_41 ?_
        refine lv_if_le (tgt := 50) hx hb dX5_greatestGap_42 (by decide) (fun c_8 => ?_) (fun c_8 => ?_)
        · replace h := it_t h c_8
          refine lv_dload_n hx hb dX5_greatestGap_50 rfl (lv_at hl 2 rfl) ?_
          refine lv_dstore_n (lv' := [(1, .double x1), (6, .double y_7), (0, .ref q_t), (3, .int x3)]) hx hb dX5_greatestGap_51 rfl hl (by decide) rfl (fun ls hl => ?_)
          obtain ⟨x3_9, ex3_9, h⟩ := pl_ok h
          refine lv_iinc (v := x3_9) (lv' := [(3, .int x3_9), (1, .double x1), (6, .double y_7), (0, .ref q_t)]) hx hb dX5_greatestGap_52 hl (k := 3) rfl (by rw [ex3_9]; rfl) (by decide) rfl (fun ls hl => ?_)
          refine lv_goto (tgt := 4) hx hb dX5_greatestGap_55 (by decide) ?_
          obtain rfl := sm1 h
          exact ih x1 x3_9 hk H locs ls hP hD hS (lv_sub hl [3, 1, 0] rfl)
        · replace h := it_f h c_8
          refine lv_dload hx hb dX5_greatestGap_45 (lv_at hl 0 rfl) ?_
          refine lv_goto (tgt := 51) hx hb dX5_greatestGap_47 (by decide) ?_
          refine lv_dstore_n (lv' := [(1, .double y_7), (6, .double y_7), (0, .ref q_t), (3, .int x3)]) hx hb dX5_greatestGap_51 rfl hl (by decide) rfl (fun ls hl => ?_)
          obtain ⟨x3_10, ex3_10, h⟩ := pl_ok h
          refine lv_iinc (v := x3_10) (lv' := [(3, .int x3_10), (1, .double y_7), (6, .double y_7), (0, .ref q_t)]) hx hb dX5_greatestGap_52 hl (k := 3) rfl (by rw [ex3_10]; rfl) (by decide) rfl (fun ls hl => ?_)
          refine lv_goto (tgt := 4) hx hb dX5_greatestGap_55 (by decide) ?_
          obtain rfl := sm1 h
          exact ih y_7 x3_10 hk H locs ls hP hD hS (lv_sub hl [3, 1, 0] rfl)
      replace h := hr
      clear hr
      refine lv_if_ge (tgt := 34) hx hb dX5_greatestGap_25 (by decide) (fun c_6 => ?_) (fun c_6 => ?_)
      · replace h := it_t h c_6
        refine lv_dload hx hb dX5_greatestGap_34 (lv_at hl 0 rfl) ?_
        obtain rfl := sm1 h
        exact J H locs ls hP hD hS (lv_sub hl [1, 2, 3] rfl)
      · replace h := it_f h c_6
        refine lv_dload hx hb dX5_greatestGap_28 (lv_at hl 0 rfl) ?_
        refine lv_dneg hx hb dX5_greatestGap_30 ?_
        refine lv_goto (tgt := 36) hx hb dX5_greatestGap_31 (by decide) ?_
        obtain rfl := sm1 h
        exact J H locs ls hP hD hS (lv_sub hl [1, 2, 3] rfl)
set_option maxHeartbeats 4000000 in
set_option maxRecDepth 100000 in
theorem k_X5_greatestGap {p : Program} {l : Launch} {e : Env} {s : State} {m : MethodId} {args : Array Value} {below : List Frame} {meth : Method} {c : Code} {Q : State → Prop} {A0 : Nat → Prop} {H0 : Heap} (C : CallFix p m c cX5_greatestGap 8 s args wsX5_greatestGap RX5) (G : GT) (hK : gK G s) (hA : ∀ q : Nat, H0.size ≤ q → A0 q) (q_t q_t_cells q_t_rowFactors q_t_columnFactors : Nat) (t_size : Int32) (t_cells : Nat → UInt64) (r : UInt64) (h : f_X5_greatestGap t_size t_cells = some r) (KR : ∀ (H : Heap) (locs : List Loc) (ls : Array Slot) (pc : Nat), decode cX5_greatestGap pc = .ok (.dreturn, 1) → va_P G.1 vwCl [(q_t, .inr (4, [.ref q_t_cells, .ref q_t_rowFactors, .ref q_t_columnFactors, .int t_size])), (q_t_cells, .inl (G.2 2, 49, .inr (.inr (.inr (.inl t_cells)))))] H → va_D A0 [(q_t, .inr (4, [.ref q_t_cells, .ref q_t_rowFactors, .ref q_t_columnFactors, .int t_size])), (q_t_cells, .inl (G.2 2, 49, .inr (.inr (.inr (.inl t_cells)))))] → va_S A0 H0 H locs → W p l e ({ frames := 2, cells := 0, slots := 0, locals := 47 } : Room) s m args below meth c H locs 0 0 Q (F0 m pc ls [.double r])) : ∀ (H : Heap) (locs : List Loc) (ls : Array Slot), va_P G.1 vwCl [(q_t, .inr (4, [.ref q_t_cells, .ref q_t_rowFactors, .ref q_t_columnFactors, .int t_size])), (q_t_cells, .inl (G.2 2, 49, .inr (.inr (.inr (.inl t_cells)))))] H → va_D A0 [(q_t, .inr (4, [.ref q_t_cells, .ref q_t_rowFactors, .ref q_t_columnFactors, .int t_size])), (q_t_cells, .inl (G.2 2, 49, .inr (.inr (.inr (.inl t_cells)))))] → va_S A0 H0 H locs → lv_has ls 8 [(0, .ref q_t)] → W p l e ({ frames := 2, cells := 0, slots := 0, locals := 47 } : Room) s m args below meth c H locs 0 0 Q (F0 m 0 ls []) := by
  obtain ⟨hx, hb, hml, hown, hts⟩ := C
  intro H locs ls hP hD hS hl
  rw [f_X5_greatestGap] at h
  refine lv_dconst0 hx hb dX5_greatestGap_0 ?_
  refine lv_dstore_n (lv' := [(1, .double FP.dconst0), (0, .ref q_t)]) hx hb dX5_greatestGap_1 rfl hl (by decide) rfl (fun ls hl => ?_)
  refine lv_iconst (v := 0) hx hb dX5_greatestGap_2 (by decide) ?_
  refine lv_istore_n (lv' := [(3, .int (0 : Int32)), (1, .double FP.dconst0), (0, .ref q_t)]) hx hb dX5_greatestGap_3 rfl hl (by decide) rfl (fun ls hl => ?_)
  obtain ⟨x1_11, hz_13, h⟩ := bd_ok h
  refine l_X5_greatestGap_1 ⟨hx, hb, hml, hown, hts⟩ G hK hA q_t q_t_cells q_t_rowFactors q_t_columnFactors t_size t_cells x1_11 ?_ FU FP.dconst0 (0 : Int32) hz_13 H locs ls hP hD hS (lv_sub hl [2, 1, 0] rfl)
  intro H locs ls hP hD hS hl
  refine lv_dload_n hx hb dX5_greatestGap_58 rfl (lv_at hl 0 rfl) ?_
  obtain rfl := sm1 h
  exact KR H locs ls 59 dX5_greatestGap_59 hP hD hS
set_option maxHeartbeats 4000000 in
set_option maxRecDepth 100000 in
theorem c_X5_greatestGap (l : Launch) (G : GT) (q_t q_t_cells q_t_rowFactors q_t_columnFactors : Nat) (sz : Nat) (t_size : Int32) (t_cells : Nat → UInt64) (r : UInt64) (h : f_X5_greatestGap t_size t_cells = some r) : Met l yX5_greatestGap wsX5_greatestGap ({ frames := 2, cells := 0, slots := 0, locals := 47 } : Room) (va_Pc [.ref q_t] (pcW G [(q_t, .inr (4, [.ref q_t_cells, .ref q_t_rowFactors, .ref q_t_columnFactors, .int t_size])), (q_t_cells, .inl (G.2 2, 49, .inr (.inr (.inr (.inl t_cells)))))] sz)) (va_Qd (fun r9 (_ : Unit) => r9 = r) (fun _ t => atW G (va_A [(q_t, .inr (4, [.ref q_t_cells, .ref q_t_rowFactors, .ref q_t_columnFactors, .int t_size])), (q_t_cells, .inl (G.2 2, 49, .inr (.inr (.inr (.inl t_cells)))))] sz) [(q_t, .inr (4, [.ref q_t_cells, .ref q_t_rowFactors, .ref q_t_columnFactors, .int t_size])), (q_t_cells, .inl (G.2 2, 49, .inr (.inr (.inr (.inl t_cells)))))] t) (va_A [(q_t, .inr (4, [.ref q_t_cells, .ref q_t_rowFactors, .ref q_t_columnFactors, .int t_size])), (q_t_cells, .inl (G.2 2, 49, .inr (.inr (.inr (.inl t_cells)))))] sz)) 0 0 (va_A [(q_t, .inr (4, [.ref q_t_cells, .ref q_t_rowFactors, .ref q_t_columnFactors, .int t_size])), (q_t_cells, .inl (G.2 2, 49, .inr (.inr (.inr (.inl t_cells)))))] sz) := by
  refine Met.ofW (cc := cX5_greatestGap) (maxL := 8) (ret := (some .double)) (by decide) rfl ?_
  intro p e s m args below meth c s₁ B hml hv
  obtain ⟨rfl, hsz, hP, hK, hD0⟩ := hv
  subst hsz
  have hD := hD0.self (sz := s.heap.size)
  generalize hAe : va_A [(q_t, .inr (4, [.ref q_t_cells, .ref q_t_rowFactors, .ref q_t_columnFactors, .int t_size])), (q_t_cells, .inl (G.2 2, 49, .inr (.inr (.inr (.inl t_cells)))))] s.heap.size = A at hD ⊢
  have hA : ∀ q : Nat, s.heap.size ≤ q → A q := fun q h => by rw [← hAe]; exact Or.inr h
  have hl := lv_entry ([.ref q_t]) (n := 8) (Nat.le_of_ble_eq_true rfl)
  rw [lg_entry_eq]
  refine k_X5_greatestGap ⟨B.exec, B.bytes, hml, findClass_of_methodNamed B.named, atoms_spec (ws := wsX5_greatestGap) B.pre⟩ G hK hA q_t q_t_cells q_t_rowFactors q_t_columnFactors _ _ _ h ?_ _ _ _ hP hD va_S.rf hl
  intro H locs ls pc hd hP hD hS
  exact W.dret B.exec B.bytes B.returns (fun t ht hW => ⟨⟨r, (), rfl, rfl, by rw [ht]; exact hP, hD⟩, hS.F ht⟩) hS.2.2 hd B.notSynchronized
set_option maxRecDepth 20000 in
theorem wd_X5_bound_1 : Cond.fieldLink RX5 21 "PermanentDesk$Scaling" "size" "I" ∈ wsX5_bound := List.mem_of_getElem? (i := 1) (by decide +kernel)
set_option maxRecDepth 20000 in
theorem wi_X5_bound_X5 : ∀ w ∈ u_ws RX5 TX5 4, w ∈ wsX5_bound := by decide +kernel
set_option maxRecDepth 20000 in
theorem wd_X5_bound_2 : Cond.fieldLink RX5 15 "PermanentDesk$Scaling" "rowFactors" "[D" ∈ wsX5_bound := List.mem_of_getElem? (i := 2) (by decide +kernel)
set_option maxRecDepth 20000 in
theorem wd_X5_bound_3 : Cond.fieldLink RX5 18 "PermanentDesk$Scaling" "columnFactors" "[D" ∈ wsX5_bound := List.mem_of_getElem? (i := 3) (by decide +kernel)
def f_X5_bound_L1 (t_size : Int32) : (UInt64 × Int32) → Option ((UInt64 × Int32) ⊕ UInt64)
  | (x1, x3) =>
    if t_size < x3 then
      some (.inr x1)
    else
      gd (okD (FP.dmul x1 (FP.i2d x3))) (
      pl ((FP.dmul x1 (FP.i2d x3)) : UInt64) (fun x1_3 =>
      gd (okD (FP.ddiv x1_3 (FP.i2d t_size))) (
      pl ((FP.ddiv x1_3 (FP.i2d t_size)) : UInt64) (fun x1_5 =>
      pl ((x3 + (1 : Int32)) : Int32) (fun x3_6 =>
      some (.inl (x1_5, x3_6)))))))
def f_X5_bound_L2 (t_size : Int32) (t_rowFactors : Nat → UInt64) : (UInt64 × Int32) → Option ((UInt64 × Int32) ⊕ UInt64)
  | (x1, x3) =>
    if t_size ≤ x3 then
      some (.inr x1)
    else
      gd (okI x3 7) (
      gd (okD (FP.dmul x1 (t_rowFactors x3.toNatClampNeg))) (
      pl ((FP.dmul x1 (t_rowFactors x3.toNatClampNeg)) : UInt64) (fun x1_13 =>
      pl ((x3 + (1 : Int32)) : Int32) (fun x3_14 =>
      some (.inl (x1_13, x3_14))))))
def f_X5_bound_L3 (t_size : Int32) (t_columnFactors : Nat → UInt64) : (UInt64 × Int32) → Option ((UInt64 × Int32) ⊕ UInt64)
  | (x1, x3) =>
    if t_size ≤ x3 then
      some (.inr x1)
    else
      gd (okI x3 7) (
      gd (okD (FP.dmul x1 (t_columnFactors x3.toNatClampNeg))) (
      pl ((FP.dmul x1 (t_columnFactors x3.toNatClampNeg)) : UInt64) (fun x1_21 =>
      pl ((x3 + (1 : Int32)) : Int32) (fun x3_22 =>
      some (.inl (x1_21, x3_22))))))
def f_X5_bound (t_size : Int32) (t_rowFactors : Nat → UInt64) (t_columnFactors : Nat → UInt64) : Option UInt64 :=
  (lpN (f_X5_bound_L1 t_size) FU (FP.dconst1, (1 : Int32))).bind (fun x1_7 =>
  (lpN (f_X5_bound_L2 t_size t_rowFactors) FU (x1_7, (0 : Int32))).bind (fun x1_15 =>
  (lpN (f_X5_bound_L3 t_size t_columnFactors) FU (x1_15, (0 : Int32))).bind (fun x1_23 =>
  some x1_23)))
set_option maxHeartbeats 4000000 in
set_option maxRecDepth 100000 in
theorem l_X5_bound_1 {p : Program} {l : Launch} {e : Env} {s : State} {m : MethodId} {args : Array Value} {below : List Frame} {meth : Method} {c : Code} {Q : State → Prop} {A0 : Nat → Prop} {H0 : Heap} (C : CallFix p m c cX5_bound 4 s args wsX5_bound RX5) (G : GT) (hK : gK G s) (hA : ∀ q : Nat, H0.size ≤ q → A0 q) (q_t q_t_cells q_t_rowFactors q_t_columnFactors : Nat) (t_size : Int32) (t_rowFactors : Nat → UInt64) (t_columnFactors : Nat → UInt64) (E_x1 : UInt64) (K : ∀ (H : Heap) (locs : List Loc) (ls : Array Slot), va_P G.1 vwCl [(q_t, .inr (4, [.ref q_t_cells, .ref q_t_rowFactors, .ref q_t_columnFactors, .int t_size])), (q_t_rowFactors, .inl (G.2 2, 7, .inr (.inr (.inr (.inl t_rowFactors))))), (q_t_columnFactors, .inl (G.2 2, 7, .inr (.inr (.inr (.inl t_columnFactors)))))] H → va_D A0 [(q_t, .inr (4, [.ref q_t_cells, .ref q_t_rowFactors, .ref q_t_columnFactors, .int t_size])), (q_t_rowFactors, .inl (G.2 2, 7, .inr (.inr (.inr (.inl t_rowFactors))))), (q_t_columnFactors, .inl (G.2 2, 7, .inr (.inr (.inr (.inl t_columnFactors)))))] → va_S A0 H0 H locs → lv_has ls 4 [(0, .ref q_t), (1, .double E_x1)] → W p l e ({ frames := 0, cells := 0, slots := 0, locals := 0 } : Room) s m args below meth c H locs 0 0 Q (F0 m 31 ls [])) : ∀ (n : Nat) (x1 : UInt64) (x3 : Int32), lpN (f_X5_bound_L1 t_size) n (x1, x3) = some E_x1 → ∀ (H : Heap) (locs : List Loc) (ls : Array Slot), va_P G.1 vwCl [(q_t, .inr (4, [.ref q_t_cells, .ref q_t_rowFactors, .ref q_t_columnFactors, .int t_size])), (q_t_rowFactors, .inl (G.2 2, 7, .inr (.inr (.inr (.inl t_rowFactors))))), (q_t_columnFactors, .inl (G.2 2, 7, .inr (.inr (.inr (.inl t_columnFactors)))))] H → va_D A0 [(q_t, .inr (4, [.ref q_t_cells, .ref q_t_rowFactors, .ref q_t_columnFactors, .int t_size])), (q_t_rowFactors, .inl (G.2 2, 7, .inr (.inr (.inr (.inl t_rowFactors))))), (q_t_columnFactors, .inl (G.2 2, 7, .inr (.inr (.inr (.inl t_columnFactors)))))] → va_S A0 H0 H locs → lv_has ls 4 [(0, .ref q_t), (1, .double x1), (3, .int x3)] → W p l e ({ frames := 0, cells := 0, slots := 0, locals := 0 } : Room) s m args below meth c H locs 0 0 Q (F0 m 4 ls []) := by
  obtain ⟨hx, hb, hml, hown, hts⟩ := C
  intro n
  induction n with
  | zero => intro x1 x3 h; exact absurd h (fun h => lp_0 h)
  | succ n ih =>
    intro x1 x3 h H locs ls hP hD hS hl
    obtain ⟨y, h, hk⟩ := lp_s h
    rw [f_X5_bound_L1] at h
    refine lv_iload_n hx hb dX5_bound_4 rfl (lv_at hl 2 rfl) ?_
    refine lv_aload_n hx hb dX5_bound_5 rfl (lv_at hl 0 rfl) ?_
    refine va_get (D := G.1) (ci := 4) (v := .int t_size) (C := RX5) (T := TX5) (N := 4) hx hb hts wi_X5_bound_X5 hown hK hP 0 rfl rfl 3 (by decide) (hts _ wd_X5_bound_1) (fun _ h9 => h9) rfl dX5_bound_6 ?_
    refine lv_icmp_gt (tgt := 31) hx hb dX5_bound_9 (by decide) (fun c_1 => ?_) (fun c_1 => ?_)
    · replace h := it_t h c_1
      obtain rfl := sm1 h
      obtain rfl := sm1 hk
      exact K H locs ls hP hD hS (lv_sub hl [0, 1] rfl)
    · replace h := it_f h c_1
      refine lv_dload_n hx hb dX5_bound_12 rfl (lv_at hl 1 rfl) ?_
      refine lv_iload_n hx hb dX5_bound_13 rfl (lv_at hl 2 rfl) ?_
      refine lv_i2d hx hb dX5_bound_14 ?_
      obtain ⟨g_2, h⟩ := gd_ok h
      refine lv_dmul hx hb dX5_bound_15 g_2 ?_
      refine lv_topd (fun x1_3 ex1_3 => ?_)
      replace h := pl_v h ex1_3
      refine lv_dstore_n (lv' := [(1, .double x1_3), (0, .ref q_t), (3, .int x3)]) hx hb dX5_bound_16 rfl hl (by decide) rfl (fun ls hl => ?_)
      refine lv_dload_n hx hb dX5_bound_17 rfl (lv_at hl 0 rfl) ?_
      refine lv_aload_n hx hb dX5_bound_18 rfl (lv_at hl 1 rfl) ?_
      refine va_get (D := G.1) (ci := 4) (v := .int t_size) (C := RX5) (T := TX5) (N := 4) hx hb hts wi_X5_bound_X5 hown hK hP 0 rfl rfl 3 (by decide) (hts _ wd_X5_bound_1) (fun _ h9 => h9) rfl dX5_bound_19 ?_
      refine lv_i2d hx hb dX5_bound_22 ?_
      obtain ⟨g_4, h⟩ := gd_ok h
      refine lv_ddiv hx hb dX5_bound_23 g_4 ?_
      refine lv_topd (fun x1_5 ex1_5 => ?_)
      replace h := pl_v h ex1_5
      refine lv_dstore_n (lv' := [(1, .double x1_5), (0, .ref q_t), (3, .int x3)]) hx hb dX5_bound_24 rfl hl (by decide) rfl (fun ls hl => ?_)
      obtain ⟨x3_6, ex3_6, h⟩ := pl_ok h
      refine lv_iinc (v := x3_6) (lv' := [(3, .int x3_6), (1, .double x1_5), (0, .ref q_t)]) hx hb dX5_bound_25 hl (k := 2) rfl (by rw [ex3_6]; rfl) (by decide) rfl (fun ls hl => ?_)
      refine lv_goto (tgt := 4) hx hb dX5_bound_28 (by decide) ?_
      obtain rfl := sm1 h
      exact ih x1_5 x3_6 hk H locs ls hP hD hS (lv_sub hl [2, 1, 0] rfl)
set_option maxHeartbeats 4000000 in
set_option maxRecDepth 100000 in
theorem l_X5_bound_2 {p : Program} {l : Launch} {e : Env} {s : State} {m : MethodId} {args : Array Value} {below : List Frame} {meth : Method} {c : Code} {Q : State → Prop} {A0 : Nat → Prop} {H0 : Heap} (C : CallFix p m c cX5_bound 4 s args wsX5_bound RX5) (G : GT) (hK : gK G s) (hA : ∀ q : Nat, H0.size ≤ q → A0 q) (q_t q_t_cells q_t_rowFactors q_t_columnFactors : Nat) (t_size : Int32) (t_rowFactors : Nat → UInt64) (t_columnFactors : Nat → UInt64) (E_x1 : UInt64) (K : ∀ (H : Heap) (locs : List Loc) (ls : Array Slot), va_P G.1 vwCl [(q_t, .inr (4, [.ref q_t_cells, .ref q_t_rowFactors, .ref q_t_columnFactors, .int t_size])), (q_t_rowFactors, .inl (G.2 2, 7, .inr (.inr (.inr (.inl t_rowFactors))))), (q_t_columnFactors, .inl (G.2 2, 7, .inr (.inr (.inr (.inl t_columnFactors)))))] H → va_D A0 [(q_t, .inr (4, [.ref q_t_cells, .ref q_t_rowFactors, .ref q_t_columnFactors, .int t_size])), (q_t_rowFactors, .inl (G.2 2, 7, .inr (.inr (.inr (.inl t_rowFactors))))), (q_t_columnFactors, .inl (G.2 2, 7, .inr (.inr (.inr (.inl t_columnFactors)))))] → va_S A0 H0 H locs → lv_has ls 4 [(0, .ref q_t), (1, .double E_x1)] → W p l e ({ frames := 0, cells := 0, slots := 0, locals := 0 } : Room) s m args below meth c H locs 0 0 Q (F0 m 56 ls [])) : ∀ (n : Nat) (x1 : UInt64) (x3 : Int32), lpN (f_X5_bound_L2 t_size t_rowFactors) n (x1, x3) = some E_x1 → ∀ (H : Heap) (locs : List Loc) (ls : Array Slot), va_P G.1 vwCl [(q_t, .inr (4, [.ref q_t_cells, .ref q_t_rowFactors, .ref q_t_columnFactors, .int t_size])), (q_t_rowFactors, .inl (G.2 2, 7, .inr (.inr (.inr (.inl t_rowFactors))))), (q_t_columnFactors, .inl (G.2 2, 7, .inr (.inr (.inr (.inl t_columnFactors)))))] H → va_D A0 [(q_t, .inr (4, [.ref q_t_cells, .ref q_t_rowFactors, .ref q_t_columnFactors, .int t_size])), (q_t_rowFactors, .inl (G.2 2, 7, .inr (.inr (.inr (.inl t_rowFactors))))), (q_t_columnFactors, .inl (G.2 2, 7, .inr (.inr (.inr (.inl t_columnFactors)))))] → va_S A0 H0 H locs → lv_has ls 4 [(0, .ref q_t), (1, .double x1), (3, .int x3)] → W p l e ({ frames := 0, cells := 0, slots := 0, locals := 0 } : Room) s m args below meth c H locs 0 0 Q (F0 m 33 ls []) := by
  obtain ⟨hx, hb, hml, hown, hts⟩ := C
  intro n
  induction n with
  | zero => intro x1 x3 h; exact absurd h (fun h => lp_0 h)
  | succ n ih =>
    intro x1 x3 h H locs ls hP hD hS hl
    obtain ⟨y, h, hk⟩ := lp_s h
    rw [f_X5_bound_L2] at h
    refine lv_iload_n hx hb dX5_bound_33 rfl (lv_at hl 2 rfl) ?_
    refine lv_aload_n hx hb dX5_bound_34 rfl (lv_at hl 0 rfl) ?_
    refine va_get (D := G.1) (ci := 4) (v := .int t_size) (C := RX5) (T := TX5) (N := 4) hx hb hts wi_X5_bound_X5 hown hK hP 0 rfl rfl 3 (by decide) (hts _ wd_X5_bound_1) (fun _ h9 => h9) rfl dX5_bound_35 ?_
    refine lv_icmp_ge (tgt := 56) hx hb dX5_bound_38 (by decide) (fun c_10 => ?_) (fun c_10 => ?_)
    · replace h := it_t h c_10
      obtain rfl := sm1 h
      obtain rfl := sm1 hk
      exact K H locs ls hP hD hS (lv_sub hl [0, 1] rfl)
    · replace h := it_f h c_10
      refine lv_dload_n hx hb dX5_bound_41 rfl (lv_at hl 1 rfl) ?_
      refine lv_aload_n hx hb dX5_bound_42 rfl (lv_at hl 0 rfl) ?_
      refine va_get (D := G.1) (ci := 4) (v := .ref q_t_rowFactors) (C := RX5) (T := TX5) (N := 4) hx hb hts wi_X5_bound_X5 hown hK hP 0 rfl rfl 1 (by decide) (hts _ wd_X5_bound_2) (fun _ h9 => h9) rfl dX5_bound_43 ?_
      refine lv_iload_n hx hb dX5_bound_46 rfl (lv_at hl 2 rfl) ?_
      obtain ⟨g_11, h⟩ := gd_ok h
      refine va_dald (D := G.1) hx hb hK hP 1 2 rfl rfl g_11 dX5_bound_47 ?_
      obtain ⟨g_12, h⟩ := gd_ok h
      refine lv_dmul hx hb dX5_bound_48 g_12 ?_
      refine lv_topd (fun x1_13 ex1_13 => ?_)
      replace h := pl_v h ex1_13
      refine lv_dstore_n (lv' := [(1, .double x1_13), (0, .ref q_t), (3, .int x3)]) hx hb dX5_bound_49 rfl hl (by decide) rfl (fun ls hl => ?_)
      obtain ⟨x3_14, ex3_14, h⟩ := pl_ok h
      refine lv_iinc (v := x3_14) (lv' := [(3, .int x3_14), (1, .double x1_13), (0, .ref q_t)]) hx hb dX5_bound_50 hl (k := 2) rfl (by rw [ex3_14]; rfl) (by decide) rfl (fun ls hl => ?_)
      refine lv_goto (tgt := 33) hx hb dX5_bound_53 (by decide) ?_
      obtain rfl := sm1 h
      exact ih x1_13 x3_14 hk H locs ls hP hD hS (lv_sub hl [2, 1, 0] rfl)
set_option maxHeartbeats 4000000 in
set_option maxRecDepth 100000 in
theorem l_X5_bound_3 {p : Program} {l : Launch} {e : Env} {s : State} {m : MethodId} {args : Array Value} {below : List Frame} {meth : Method} {c : Code} {Q : State → Prop} {A0 : Nat → Prop} {H0 : Heap} (C : CallFix p m c cX5_bound 4 s args wsX5_bound RX5) (G : GT) (hK : gK G s) (hA : ∀ q : Nat, H0.size ≤ q → A0 q) (q_t q_t_cells q_t_rowFactors q_t_columnFactors : Nat) (t_size : Int32) (t_rowFactors : Nat → UInt64) (t_columnFactors : Nat → UInt64) (E_x1 : UInt64) (K : ∀ (H : Heap) (locs : List Loc) (ls : Array Slot), va_P G.1 vwCl [(q_t, .inr (4, [.ref q_t_cells, .ref q_t_rowFactors, .ref q_t_columnFactors, .int t_size])), (q_t_rowFactors, .inl (G.2 2, 7, .inr (.inr (.inr (.inl t_rowFactors))))), (q_t_columnFactors, .inl (G.2 2, 7, .inr (.inr (.inr (.inl t_columnFactors)))))] H → va_D A0 [(q_t, .inr (4, [.ref q_t_cells, .ref q_t_rowFactors, .ref q_t_columnFactors, .int t_size])), (q_t_rowFactors, .inl (G.2 2, 7, .inr (.inr (.inr (.inl t_rowFactors))))), (q_t_columnFactors, .inl (G.2 2, 7, .inr (.inr (.inr (.inl t_columnFactors)))))] → va_S A0 H0 H locs → lv_has ls 4 [(1, .double E_x1)] → W p l e ({ frames := 0, cells := 0, slots := 0, locals := 0 } : Room) s m args below meth c H locs 0 0 Q (F0 m 81 ls [])) : ∀ (n : Nat) (x1 : UInt64) (x3 : Int32), lpN (f_X5_bound_L3 t_size t_columnFactors) n (x1, x3) = some E_x1 → ∀ (H : Heap) (locs : List Loc) (ls : Array Slot), va_P G.1 vwCl [(q_t, .inr (4, [.ref q_t_cells, .ref q_t_rowFactors, .ref q_t_columnFactors, .int t_size])), (q_t_rowFactors, .inl (G.2 2, 7, .inr (.inr (.inr (.inl t_rowFactors))))), (q_t_columnFactors, .inl (G.2 2, 7, .inr (.inr (.inr (.inl t_columnFactors)))))] H → va_D A0 [(q_t, .inr (4, [.ref q_t_cells, .ref q_t_rowFactors, .ref q_t_columnFactors, .int t_size])), (q_t_rowFactors, .inl (G.2 2, 7, .inr (.inr (.inr (.inl t_rowFactors))))), (q_t_columnFactors, .inl (G.2 2, 7, .inr (.inr (.inr (.inl t_columnFactors)))))] → va_S A0 H0 H locs → lv_has ls 4 [(0, .ref q_t), (1, .double x1), (3, .int x3)] → W p l e ({ frames := 0, cells := 0, slots := 0, locals := 0 } : Room) s m args below meth c H locs 0 0 Q (F0 m 58 ls []) := by
  obtain ⟨hx, hb, hml, hown, hts⟩ := C
  intro n
  induction n with
  | zero => intro x1 x3 h; exact absurd h (fun h => lp_0 h)
  | succ n ih =>
    intro x1 x3 h H locs ls hP hD hS hl
    obtain ⟨y, h, hk⟩ := lp_s h
    rw [f_X5_bound_L3] at h
    refine lv_iload_n hx hb dX5_bound_58 rfl (lv_at hl 2 rfl) ?_
    refine lv_aload_n hx hb dX5_bound_59 rfl (lv_at hl 0 rfl) ?_
    refine va_get (D := G.1) (ci := 4) (v := .int t_size) (C := RX5) (T := TX5) (N := 4) hx hb hts wi_X5_bound_X5 hown hK hP 0 rfl rfl 3 (by decide) (hts _ wd_X5_bound_1) (fun _ h9 => h9) rfl dX5_bound_60 ?_
    refine lv_icmp_ge (tgt := 81) hx hb dX5_bound_63 (by decide) (fun c_18 => ?_) (fun c_18 => ?_)
    · replace h := it_t h c_18
      obtain rfl := sm1 h
      obtain rfl := sm1 hk
      exact K H locs ls hP hD hS (lv_sub hl [1] rfl)
    · replace h := it_f h c_18
      refine lv_dload_n hx hb dX5_bound_66 rfl (lv_at hl 1 rfl) ?_
      refine lv_aload_n hx hb dX5_bound_67 rfl (lv_at hl 0 rfl) ?_
      refine va_get (D := G.1) (ci := 4) (v := .ref q_t_columnFactors) (C := RX5) (T := TX5) (N := 4) hx hb hts wi_X5_bound_X5 hown hK hP 0 rfl rfl 2 (by decide) (hts _ wd_X5_bound_3) (fun _ h9 => h9) rfl dX5_bound_68 ?_
      refine lv_iload_n hx hb dX5_bound_71 rfl (lv_at hl 2 rfl) ?_
      obtain ⟨g_19, h⟩ := gd_ok h
      refine va_dald (D := G.1) hx hb hK hP 2 2 rfl rfl g_19 dX5_bound_72 ?_
      obtain ⟨g_20, h⟩ := gd_ok h
      refine lv_dmul hx hb dX5_bound_73 g_20 ?_
      refine lv_topd (fun x1_21 ex1_21 => ?_)
      replace h := pl_v h ex1_21
      refine lv_dstore_n (lv' := [(1, .double x1_21), (0, .ref q_t), (3, .int x3)]) hx hb dX5_bound_74 rfl hl (by decide) rfl (fun ls hl => ?_)
      obtain ⟨x3_22, ex3_22, h⟩ := pl_ok h
      refine lv_iinc (v := x3_22) (lv' := [(3, .int x3_22), (1, .double x1_21), (0, .ref q_t)]) hx hb dX5_bound_75 hl (k := 2) rfl (by rw [ex3_22]; rfl) (by decide) rfl (fun ls hl => ?_)
      refine lv_goto (tgt := 58) hx hb dX5_bound_78 (by decide) ?_
      obtain rfl := sm1 h
      exact ih x1_21 x3_22 hk H locs ls hP hD hS (lv_sub hl [2, 1, 0] rfl)
set_option maxHeartbeats 4000000 in
set_option maxRecDepth 100000 in
theorem k_X5_bound {p : Program} {l : Launch} {e : Env} {s : State} {m : MethodId} {args : Array Value} {below : List Frame} {meth : Method} {c : Code} {Q : State → Prop} {A0 : Nat → Prop} {H0 : Heap} (C : CallFix p m c cX5_bound 4 s args wsX5_bound RX5) (G : GT) (hK : gK G s) (hA : ∀ q : Nat, H0.size ≤ q → A0 q) (q_t q_t_cells q_t_rowFactors q_t_columnFactors : Nat) (t_size : Int32) (t_rowFactors : Nat → UInt64) (t_columnFactors : Nat → UInt64) (r : UInt64) (h : f_X5_bound t_size t_rowFactors t_columnFactors = some r) (KR : ∀ (H : Heap) (locs : List Loc) (ls : Array Slot) (pc : Nat), decode cX5_bound pc = .ok (.dreturn, 1) → va_P G.1 vwCl [(q_t, .inr (4, [.ref q_t_cells, .ref q_t_rowFactors, .ref q_t_columnFactors, .int t_size])), (q_t_rowFactors, .inl (G.2 2, 7, .inr (.inr (.inr (.inl t_rowFactors))))), (q_t_columnFactors, .inl (G.2 2, 7, .inr (.inr (.inr (.inl t_columnFactors)))))] H → va_D A0 [(q_t, .inr (4, [.ref q_t_cells, .ref q_t_rowFactors, .ref q_t_columnFactors, .int t_size])), (q_t_rowFactors, .inl (G.2 2, 7, .inr (.inr (.inr (.inl t_rowFactors))))), (q_t_columnFactors, .inl (G.2 2, 7, .inr (.inr (.inr (.inl t_columnFactors)))))] → va_S A0 H0 H locs → W p l e ({ frames := 0, cells := 0, slots := 0, locals := 0 } : Room) s m args below meth c H locs 0 0 Q (F0 m pc ls [.double r])) : ∀ (H : Heap) (locs : List Loc) (ls : Array Slot), va_P G.1 vwCl [(q_t, .inr (4, [.ref q_t_cells, .ref q_t_rowFactors, .ref q_t_columnFactors, .int t_size])), (q_t_rowFactors, .inl (G.2 2, 7, .inr (.inr (.inr (.inl t_rowFactors))))), (q_t_columnFactors, .inl (G.2 2, 7, .inr (.inr (.inr (.inl t_columnFactors)))))] H → va_D A0 [(q_t, .inr (4, [.ref q_t_cells, .ref q_t_rowFactors, .ref q_t_columnFactors, .int t_size])), (q_t_rowFactors, .inl (G.2 2, 7, .inr (.inr (.inr (.inl t_rowFactors))))), (q_t_columnFactors, .inl (G.2 2, 7, .inr (.inr (.inr (.inl t_columnFactors)))))] → va_S A0 H0 H locs → lv_has ls 4 [(0, .ref q_t)] → W p l e ({ frames := 0, cells := 0, slots := 0, locals := 0 } : Room) s m args below meth c H locs 0 0 Q (F0 m 0 ls []) := by
  obtain ⟨hx, hb, hml, hown, hts⟩ := C
  intro H locs ls hP hD hS hl
  rw [f_X5_bound] at h
  refine lv_dconst1 hx hb dX5_bound_0 ?_
  refine lv_dstore_n (lv' := [(1, .double FP.dconst1), (0, .ref q_t)]) hx hb dX5_bound_1 rfl hl (by decide) rfl (fun ls hl => ?_)
  refine lv_iconst (v := 1) hx hb dX5_bound_2 (by decide) ?_
  refine lv_istore_n (lv' := [(3, .int (1 : Int32)), (1, .double FP.dconst1), (0, .ref q_t)]) hx hb dX5_bound_3 rfl hl (by decide) rfl (fun ls hl => ?_)
  obtain ⟨x1_7, hz_9, h⟩ := bd_ok h
  refine l_X5_bound_1 ⟨hx, hb, hml, hown, hts⟩ G hK hA q_t q_t_cells q_t_rowFactors q_t_columnFactors t_size t_rowFactors t_columnFactors x1_7 ?_ FU FP.dconst1 (1 : Int32) hz_9 H locs ls hP hD hS (lv_sub hl [2, 1, 0] rfl)
  intro H locs ls hP hD hS hl
  refine lv_iconst (v := 0) hx hb dX5_bound_31 (by decide) ?_
  refine lv_istore_n (lv' := [(3, .int (0 : Int32)), (0, .ref q_t), (1, .double x1_7)]) hx hb dX5_bound_32 rfl hl (by decide) rfl (fun ls hl => ?_)
  obtain ⟨x1_15, hz_17, h⟩ := bd_ok h
  refine l_X5_bound_2 ⟨hx, hb, hml, hown, hts⟩ G hK hA q_t q_t_cells q_t_rowFactors q_t_columnFactors t_size t_rowFactors t_columnFactors x1_15 ?_ FU x1_7 (0 : Int32) hz_17 H locs ls hP hD hS (lv_sub hl [1, 2, 0] rfl)
  intro H locs ls hP hD hS hl
  refine lv_iconst (v := 0) hx hb dX5_bound_56 (by decide) ?_
  refine lv_istore_n (lv' := [(3, .int (0 : Int32)), (0, .ref q_t), (1, .double x1_15)]) hx hb dX5_bound_57 rfl hl (by decide) rfl (fun ls hl => ?_)
  obtain ⟨x1_23, hz_25, h⟩ := bd_ok h
  refine l_X5_bound_3 ⟨hx, hb, hml, hown, hts⟩ G hK hA q_t q_t_cells q_t_rowFactors q_t_columnFactors t_size t_rowFactors t_columnFactors x1_23 ?_ FU x1_15 (0 : Int32) hz_25 H locs ls hP hD hS (lv_sub hl [1, 2, 0] rfl)
  intro H locs ls hP hD hS hl
  refine lv_dload_n hx hb dX5_bound_81 rfl (lv_at hl 0 rfl) ?_
  obtain rfl := sm1 h
  exact KR H locs ls 82 dX5_bound_82 hP hD hS
set_option maxHeartbeats 4000000 in
set_option maxRecDepth 100000 in
theorem c_X5_bound (l : Launch) (G : GT) (q_t q_t_cells q_t_rowFactors q_t_columnFactors : Nat) (sz : Nat) (t_size : Int32) (t_rowFactors : Nat → UInt64) (t_columnFactors : Nat → UInt64) (r : UInt64) (h : f_X5_bound t_size t_rowFactors t_columnFactors = some r) : Met l yX5_bound wsX5_bound ({ frames := 0, cells := 0, slots := 0, locals := 0 } : Room) (va_Pc [.ref q_t] (pcW G [(q_t, .inr (4, [.ref q_t_cells, .ref q_t_rowFactors, .ref q_t_columnFactors, .int t_size])), (q_t_rowFactors, .inl (G.2 2, 7, .inr (.inr (.inr (.inl t_rowFactors))))), (q_t_columnFactors, .inl (G.2 2, 7, .inr (.inr (.inr (.inl t_columnFactors)))))] sz)) (va_Qd (fun r9 (_ : Unit) => r9 = r) (fun _ t => atW G (va_A [(q_t, .inr (4, [.ref q_t_cells, .ref q_t_rowFactors, .ref q_t_columnFactors, .int t_size])), (q_t_rowFactors, .inl (G.2 2, 7, .inr (.inr (.inr (.inl t_rowFactors))))), (q_t_columnFactors, .inl (G.2 2, 7, .inr (.inr (.inr (.inl t_columnFactors)))))] sz) [(q_t, .inr (4, [.ref q_t_cells, .ref q_t_rowFactors, .ref q_t_columnFactors, .int t_size])), (q_t_rowFactors, .inl (G.2 2, 7, .inr (.inr (.inr (.inl t_rowFactors))))), (q_t_columnFactors, .inl (G.2 2, 7, .inr (.inr (.inr (.inl t_columnFactors)))))] t) (va_A [(q_t, .inr (4, [.ref q_t_cells, .ref q_t_rowFactors, .ref q_t_columnFactors, .int t_size])), (q_t_rowFactors, .inl (G.2 2, 7, .inr (.inr (.inr (.inl t_rowFactors))))), (q_t_columnFactors, .inl (G.2 2, 7, .inr (.inr (.inr (.inl t_columnFactors)))))] sz)) 0 0 (va_A [(q_t, .inr (4, [.ref q_t_cells, .ref q_t_rowFactors, .ref q_t_columnFactors, .int t_size])), (q_t_rowFactors, .inl (G.2 2, 7, .inr (.inr (.inr (.inl t_rowFactors))))), (q_t_columnFactors, .inl (G.2 2, 7, .inr (.inr (.inr (.inl t_columnFactors)))))] sz) := by
  refine Met.ofW (cc := cX5_bound) (maxL := 4) (ret := (some .double)) (by decide) rfl ?_
  intro p e s m args below meth c s₁ B hml hv
  obtain ⟨rfl, hsz, hP, hK, hD0⟩ := hv
  subst hsz
  have hD := hD0.self (sz := s.heap.size)
  generalize hAe : va_A [(q_t, .inr (4, [.ref q_t_cells, .ref q_t_rowFactors, .ref q_t_columnFactors, .int t_size])), (q_t_rowFactors, .inl (G.2 2, 7, .inr (.inr (.inr (.inl t_rowFactors))))), (q_t_columnFactors, .inl (G.2 2, 7, .inr (.inr (.inr (.inl t_columnFactors)))))] s.heap.size = A at hD ⊢
  have hA : ∀ q : Nat, s.heap.size ≤ q → A q := fun q h => by rw [← hAe]; exact Or.inr h
  have hl := lv_entry ([.ref q_t]) (n := 4) (Nat.le_of_ble_eq_true rfl)
  rw [lg_entry_eq]
  refine k_X5_bound ⟨B.exec, B.bytes, hml, findClass_of_methodNamed B.named, atoms_spec (ws := wsX5_bound) B.pre⟩ G hK hA q_t q_t_cells q_t_rowFactors q_t_columnFactors _ _ _ _ h ?_ _ _ _ hP hD va_S.rf hl
  intro H locs ls pc hd hP hD hS
  exact W.dret B.exec B.bytes B.returns (fun t ht hW => ⟨⟨r, (), rfl, rfl, by rw [ht]; exact hP, hD⟩, hS.F ht⟩) hS.2.2 hd B.notSynchronized
