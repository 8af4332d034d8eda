set_option maxRecDepth 20000 in
theorem wd_X10_number_1 : Cond.fieldLink RX10 7 "PermanentDeskModel" "z" "[I" ∈ wsX10_number := List.mem_of_getElem? (i := 1) (by decide +kernel)
set_option maxRecDepth 20000 in
theorem wi_X10_number_X10 : ∀ w ∈ u_ws RX10 TX10 21, w ∈ wsX10_number := by decide +kernel
set_option maxRecDepth 20000 in
theorem wd_X10_number_2 : Cond.fieldLink RX10 25 "PermanentDeskModel" "order" "[I" ∈ wsX10_number := List.mem_of_getElem? (i := 2) (by decide +kernel)
def f_X10_number_L1 (t_z : Nat → Int32) (t_order : Nat → Int32) : (Int32 × Int32) → Option ((Int32 × Int32) ⊕ Int32)
  | (x1, x2) =>
    gd (okI (49 : Int32) 50) (
    if (t_z (49 : Int32).toNatClampNeg) ≤ x2 then
      some (.inr x1)
    else
      gd (okI x2 7) (
      pl ((((10 : Int32) * x1) + (t_order x2.toNatClampNeg)) : Int32) (fun x1_4 =>
      pl ((x2 + (1 : Int32)) : Int32) (fun x2_5 =>
      some (.inl (x1_4, x2_5))))))
def f_X10_number (t_z : Nat → Int32) (t_order : Nat → Int32) : Option Int32 :=
  (lpN (f_X10_number_L1 t_z t_order) FU ((0 : Int32), (0 : Int32))).bind (fun x1_6 =>
  some x1_6)
set_option maxHeartbeats 4000000 in
set_option maxRecDepth 100000 in
theorem l_X10_number_1 {p : Program} {l : Launch} {e : Env} {s : State} {m : MethodId} {args : Array Value} {below : List Frame} {meth : Method} {c : Code} {Q : State → Prop} {A0 : Nat → Prop} {H0 : Heap} (C : CallFix p m c cX10_number 3 s args wsX10_number RX10) (G : GT) (hK : gK G s) (hA : ∀ q : Nat, H0.size ≤ q → A0 q) (q_t q_t_z q_t_old q_t_past q_t_kept q_t_text q_t_order q_t_told q_t_rowsTaken q_t_columnsTaken q_t_ways q_t_scaled q_t_rowFactors q_t_columnFactors q_t_rest q_t_diagonals q_t_weights : Nat) (t_states : Int32) (t_isKept : Int32) (t_length : Int32) (t_spot : Int32) (t_toldRows : Int32) (t_z : Nat → Int32) (t_order : Nat → Int32) (E_x1 : Int32) (K : ∀ (H : Heap) (locs : List Loc) (ls : Array Slot), va_P G.1 vwCl [(q_t, .inr (9, [.ref q_t_z, .ref q_t_old, .ref q_t_past, .int t_states, .ref q_t_kept, .int t_isKept, .ref q_t_text, .int t_length, .ref q_t_order, .ref q_t_told, .int t_spot, .int t_toldRows, .ref q_t_rowsTaken, .ref q_t_columnsTaken, .ref q_t_ways, .ref q_t_scaled, .ref q_t_rowFactors, .ref q_t_columnFactors, .ref q_t_rest, .ref q_t_diagonals, .ref q_t_weights])), (q_t_z, .inl (G.2 0, 50, .inl t_z)), (q_t_order, .inl (G.2 0, 7, .inl t_order))] H → va_D A0 [(q_t, .inr (9, [.ref q_t_z, .ref q_t_old, .ref q_t_past, .int t_states, .ref q_t_kept, .int t_isKept, .ref q_t_text, .int t_length, .ref q_t_order, .ref q_t_told, .int t_spot, .int t_toldRows, .ref q_t_rowsTaken, .ref q_t_columnsTaken, .ref q_t_ways, .ref q_t_scaled, .ref q_t_rowFactors, .ref q_t_columnFactors, .ref q_t_rest, .ref q_t_diagonals, .ref q_t_weights])), (q_t_z, .inl (G.2 0, 50, .inl t_z)), (q_t_order, .inl (G.2 0, 7, .inl t_order))] → va_S A0 H0 H locs → lv_has ls 3 [(1, .int E_x1)] → W p l e ({ frames := 0, cells := 0, slots := 0, locals := 0 } : Room) s m args below meth c H locs 0 0 Q (F0 m 33 ls [])) : ∀ (n : Nat) (x1 : Int32) (x2 : Int32), lpN (f_X10_number_L1 t_z t_order) n (x1, x2) = some E_x1 → ∀ (H : Heap) (locs : List Loc) (ls : Array Slot), va_P G.1 vwCl [(q_t, .inr (9, [.ref q_t_z, .ref q_t_old, .ref q_t_past, .int t_states, .ref q_t_kept, .int t_isKept, .ref q_t_text, .int t_length, .ref q_t_order, .ref q_t_told, .int t_spot, .int t_toldRows, .ref q_t_rowsTaken, .ref q_t_columnsTaken, .ref q_t_ways, .ref q_t_scaled, .ref q_t_rowFactors, .ref q_t_columnFactors, .ref q_t_rest, .ref q_t_diagonals, .ref q_t_weights])), (q_t_z, .inl (G.2 0, 50, .inl t_z)), (q_t_order, .inl (G.2 0, 7, .inl t_order))] H → va_D A0 [(q_t, .inr (9, [.ref q_t_z, .ref q_t_old, .ref q_t_past, .int t_states, .ref q_t_kept, .int t_isKept, .ref q_t_text, .int t_length, .ref q_t_order, .ref q_t_told, .int t_spot, .int t_toldRows, .ref q_t_rowsTaken, .ref q_t_columnsTaken, .ref q_t_ways, .ref q_t_scaled, .ref q_t_rowFactors, .ref q_t_columnFactors, .ref q_t_rest, .ref q_t_diagonals, .ref q_t_weights])), (q_t_z, .inl (G.2 0, 50, .inl t_z)), (q_t_order, .inl (G.2 0, 7, .inl t_order))] → va_S A0 H0 H locs → lv_has ls 3 [(0, .ref q_t), (1, .int x1), (2, .int x2)] → W p l e ({ frames := 0, cells := 0, slots := 0, locals := 0 } : Room) s m args below meth c H locs 0 0 Q (F0 m 4 ls []) := by
  obtain ⟨hx, hb, hml, hown, hts⟩ := C
  intro n
  induction n with
  | zero => intro x1 x2 h; exact absurd h (fun h => lp_0 h)
  | succ n ih =>
    intro x1 x2 h H locs ls hP hD hS hl
    obtain ⟨y, h, hk⟩ := lp_s h
    rw [f_X10_number_L1] at h
    refine lv_iload_n hx hb dX10_number_4 rfl (lv_at hl 2 rfl) ?_
    refine lv_aload_n hx hb dX10_number_5 rfl (lv_at hl 0 rfl) ?_
    refine va_get (D := G.1) (ci := 9) (v := .ref q_t_z) (C := RX10) (T := TX10) (N := 21) hx hb hts wi_X10_number_X10 hown hK hP 0 rfl rfl 0 (by decide) (hts _ wd_X10_number_1) (fun _ h9 => h9) rfl dX10_number_6 ?_
    refine lv_bipush (v := 49) hx hb dX10_number_9 (by decide) ?_
    obtain ⟨g_1, h⟩ := gd_ok h
    refine va_iald (D := G.1) hx hb hK hP 1 0 rfl rfl g_1 dX10_number_11 ?_
    refine lv_icmp_ge (tgt := 33) hx hb dX10_number_12 (by decide) (fun c_2 => ?_) (fun c_2 => ?_)
    · replace h := it_t h c_2
      obtain rfl := sm1 h
      obtain rfl := sm1 hk
      exact K H locs ls hP hD hS (lv_sub hl [1] rfl)
    · replace h := it_f h c_2
      refine lv_bipush (v := 10) hx hb dX10_number_15 (by decide) ?_
      refine lv_iload_n hx hb dX10_number_17 rfl (lv_at hl 1 rfl) ?_
      refine lv_imul hx hb dX10_number_18 ?_
      refine lv_aload_n hx hb dX10_number_19 rfl (lv_at hl 0 rfl) ?_
      refine va_get (D := G.1) (ci := 9) (v := .ref q_t_order) (C := RX10) (T := TX10) (N := 21) hx hb hts wi_X10_number_X10 hown hK hP 0 rfl rfl 8 (by decide) (hts _ wd_X10_number_2) (fun _ h9 => h9) rfl dX10_number_20 ?_
      refine lv_iload_n hx hb dX10_number_23 rfl (lv_at hl 2 rfl) ?_
      obtain ⟨g_3, h⟩ := gd_ok h
      refine va_iald (D := G.1) hx hb hK hP 2 0 rfl rfl g_3 dX10_number_24 ?_
      refine lv_iadd hx hb dX10_number_25 ?_
      refine lv_topi (fun x1_4 ex1_4 => ?_)
      replace h := pl_v h ex1_4
      refine lv_istore_n (lv' := [(1, .int x1_4), (0, .ref q_t), (2, .int x2)]) hx hb dX10_number_26 rfl hl (by decide) rfl (fun ls hl => ?_)
      obtain ⟨x2_5, ex2_5, h⟩ := pl_ok h
      refine lv_iinc (v := x2_5) (lv' := [(2, .int x2_5), (1, .int x1_4), (0, .ref q_t)]) hx hb dX10_number_27 hl (k := 2) rfl (by rw [ex2_5]; rfl) (by decide) rfl (fun ls hl => ?_)
      refine lv_goto (tgt := 4) hx hb dX10_number_30 (by decide) ?_
      obtain rfl := sm1 h
      exact ih x1_4 x2_5 hk H locs ls hP hD hS (lv_sub hl [2, 1, 0] rfl)
set_option maxHeartbeats 4000000 in
set_option maxRecDepth 100000 in
theorem k_X10_number {p : Program} {l : Launch} {e : Env} {s : State} {m : MethodId} {args : Array Value} {below : List Frame} {meth : Method} {c : Code} {Q : State → Prop} {A0 : Nat → Prop} {H0 : Heap} (C : CallFix p m c cX10_number 3 s args wsX10_number RX10) (G : GT) (hK : gK G s) (hA : ∀ q : Nat, H0.size ≤ q → A0 q) (q_t q_t_z q_t_old q_t_past q_t_kept q_t_text q_t_order q_t_told q_t_rowsTaken q_t_columnsTaken q_t_ways q_t_scaled q_t_rowFactors q_t_columnFactors q_t_rest q_t_diagonals q_t_weights : Nat) (t_states : Int32) (t_isKept : Int32) (t_length : Int32) (t_spot : Int32) (t_toldRows : Int32) (t_z : Nat → Int32) (t_order : Nat → Int32) (r : Int32) (h : f_X10_number t_z t_order = some r) (KR : ∀ (H : Heap) (locs : List Loc) (ls : Array Slot) (pc : Nat), decode cX10_number pc = .ok (.ireturn, 1) → va_P G.1 vwCl [(q_t, .inr (9, [.ref q_t_z, .ref q_t_old, .ref q_t_past, .int t_states, .ref q_t_kept, .int t_isKept, .ref q_t_text, .int t_length, .ref q_t_order, .ref q_t_told, .int t_spot, .int t_toldRows, .ref q_t_rowsTaken, .ref q_t_columnsTaken, .ref q_t_ways, .ref q_t_scaled, .ref q_t_rowFactors, .ref q_t_columnFactors, .ref q_t_rest, .ref q_t_diagonals, .ref q_t_weights])), (q_t_z, .inl (G.2 0, 50, .inl t_z)), (q_t_order, .inl (G.2 0, 7, .inl t_order))] H → va_D A0 [(q_t, .inr (9, [.ref q_t_z, .ref q_t_old, .ref q_t_past, .int t_states, .ref q_t_kept, .int t_isKept, .ref q_t_text, .int t_length, .ref q_t_order, .ref q_t_told, .int t_spot, .int t_toldRows, .ref q_t_rowsTaken, .ref q_t_columnsTaken, .ref q_t_ways, .ref q_t_scaled, .ref q_t_rowFactors, .ref q_t_columnFactors, .ref q_t_rest, .ref q_t_diagonals, .ref q_t_weights])), (q_t_z, .inl (G.2 0, 50, .inl t_z)), (q_t_order, .inl (G.2 0, 7, .inl t_order))] → va_S A0 H0 H locs → W p l e ({ frames := 0, cells := 0, slots := 0, locals := 0 } : Room) s m args below meth c H locs 0 0 Q (F0 m pc ls [.int r])) : ∀ (H : Heap) (locs : List Loc) (ls : Array Slot), va_P G.1 vwCl [(q_t, .inr (9, [.ref q_t_z, .ref q_t_old, .ref q_t_past, .int t_states, .ref q_t_kept, .int t_isKept, .ref q_t_text, .int t_length, .ref q_t_order, .ref q_t_told, .int t_spot, .int t_toldRows, .ref q_t_rowsTaken, .ref q_t_columnsTaken, .ref q_t_ways, .ref q_t_scaled, .ref q_t_rowFactors, .ref q_t_columnFactors, .ref q_t_rest, .ref q_t_diagonals, .ref q_t_weights])), (q_t_z, .inl (G.2 0, 50, .inl t_z)), (q_t_order, .inl (G.2 0, 7, .inl t_order))] H → va_D A0 [(q_t, .inr (9, [.ref q_t_z, .ref q_t_old, .ref q_t_past, .int t_states, .ref q_t_kept, .int t_isKept, .ref q_t_text, .int t_length, .ref q_t_order, .ref q_t_told, .int t_spot, .int t_toldRows, .ref q_t_rowsTaken, .ref q_t_columnsTaken, .ref q_t_ways, .ref q_t_scaled, .ref q_t_rowFactors, .ref q_t_columnFactors, .ref q_t_rest, .ref q_t_diagonals, .ref q_t_weights])), (q_t_z, .inl (G.2 0, 50, .inl t_z)), (q_t_order, .inl (G.2 0, 7, .inl t_order))] → va_S A0 H0 H locs → lv_has ls 3 [(0, .ref q_t)] → W p l e ({ frames := 0, cells := 0, slots := 0, locals := 0 } : Room) s m args below meth c H locs 0 0 Q (F0 m 0 ls []) := by
  obtain ⟨hx, hb, hml, hown, hts⟩ := C
  intro H locs ls hP hD hS hl
  rw [f_X10_number] at h
  refine lv_iconst (v := 0) hx hb dX10_number_0 (by decide) ?_
  refine lv_istore_n (lv' := [(1, .int (0 : Int32)), (0, .ref q_t)]) hx hb dX10_number_1 rfl hl (by decide) rfl (fun ls hl => ?_)
  refine lv_iconst (v := 0) hx hb dX10_number_2 (by decide) ?_
  refine lv_istore_n (lv' := [(2, .int (0 : Int32)), (1, .int (0 : Int32)), (0, .ref q_t)]) hx hb dX10_number_3 rfl hl (by decide) rfl (fun ls hl => ?_)
  obtain ⟨x1_6, hz_8, h⟩ := bd_ok h
  refine l_X10_number_1 ⟨hx, hb, hml, hown, hts⟩ G hK hA q_t q_t_z q_t_old q_t_past q_t_kept q_t_text q_t_order q_t_told q_t_rowsTaken q_t_columnsTaken q_t_ways q_t_scaled q_t_rowFactors q_t_columnFactors q_t_rest q_t_diagonals q_t_weights t_states t_isKept t_length t_spot t_toldRows t_z t_order x1_6 ?_ FU (0 : Int32) (0 : Int32) hz_8 H locs ls hP hD hS (lv_sub hl [2, 1, 0] rfl)
  intro H locs ls hP hD hS hl
  refine lv_iload_n hx hb dX10_number_33 rfl (lv_at hl 0 rfl) ?_
  obtain rfl := sm1 h
  exact KR H locs ls 34 dX10_number_34 hP hD hS
set_option maxHeartbeats 4000000 in
set_option maxRecDepth 100000 in
theorem c_X10_number (l : Launch) (G : GT) (q_t q_t_z q_t_old q_t_past q_t_kept q_t_text q_t_order q_t_told q_t_rowsTaken q_t_columnsTaken q_t_ways q_t_scaled q_t_rowFactors q_t_columnFactors q_t_rest q_t_diagonals q_t_weights : Nat) (sz : Nat) (t_states : Int32) (t_isKept : Int32) (t_length : Int32) (t_spot : Int32) (t_toldRows : Int32) (t_z : Nat → Int32) (t_order : Nat → Int32) (r : Int32) (h : f_X10_number t_z t_order = some r) : Met l yX10_number wsX10_number ({ frames := 0, cells := 0, slots := 0, locals := 0 } : Room) (va_Pc [.ref q_t] (pcW G [(q_t, .inr (9, [.ref q_t_z, .ref q_t_old, .ref q_t_past, .int t_states, .ref q_t_kept, .int t_isKept, .ref q_t_text, .int t_length, .ref q_t_order, .ref q_t_told, .int t_spot, .int t_toldRows, .ref q_t_rowsTaken, .ref q_t_columnsTaken, .ref q_t_ways, .ref q_t_scaled, .ref q_t_rowFactors, .ref q_t_columnFactors, .ref q_t_rest, .ref q_t_diagonals, .ref q_t_weights])), (q_t_z, .inl (G.2 0, 50, .inl t_z)), (q_t_order, .inl (G.2 0, 7, .inl t_order))] sz)) (va_Qi (fun r9 (_ : Unit) => r9 = r) (fun _ t => atW G (va_A [(q_t, .inr (9, [.ref q_t_z, .ref q_t_old, .ref q_t_past, .int t_states, .ref q_t_kept, .int t_isKept, .ref q_t_text, .int t_length, .ref q_t_order, .ref q_t_told, .int t_spot, .int t_toldRows, .ref q_t_rowsTaken, .ref q_t_columnsTaken, .ref q_t_ways, .ref q_t_scaled, .ref q_t_rowFactors, .ref q_t_columnFactors, .ref q_t_rest, .ref q_t_diagonals, .ref q_t_weights])), (q_t_z, .inl (G.2 0, 50, .inl t_z)), (q_t_order, .inl (G.2 0, 7, .inl t_order))] sz) [(q_t, .inr (9, [.ref q_t_z, .ref q_t_old, .ref q_t_past, .int t_states, .ref q_t_kept, .int t_isKept, .ref q_t_text, .int t_length, .ref q_t_order, .ref q_t_told, .int t_spot, .int t_toldRows, .ref q_t_rowsTaken, .ref q_t_columnsTaken, .ref q_t_ways, .ref q_t_scaled, .ref q_t_rowFactors, .ref q_t_columnFactors, .ref q_t_rest, .ref q_t_diagonals, .ref q_t_weights])), (q_t_z, .inl (G.2 0, 50, .inl t_z)), (q_t_order, .inl (G.2 0, 7, .inl t_order))] t) (va_A [(q_t, .inr (9, [.ref q_t_z, .ref q_t_old, .ref q_t_past, .int t_states, .ref q_t_kept, .int t_isKept, .ref q_t_text, .int t_length, .ref q_t_order, .ref q_t_told, .int t_spot, .int t_toldRows, .ref q_t_rowsTaken, .ref q_t_columnsTaken, .ref q_t_ways, .ref q_t_scaled, .ref q_t_rowFactors, .ref q_t_columnFactors, .ref q_t_rest, .ref q_t_diagonals, .ref q_t_weights])), (q_t_z, .inl (G.2 0, 50, .inl t_z)), (q_t_order, .inl (G.2 0, 7, .inl t_order))] sz)) 0 0 (va_A [(q_t, .inr (9, [.ref q_t_z, .ref q_t_old, .ref q_t_past, .int t_states, .ref q_t_kept, .int t_isKept, .ref q_t_text, .int t_length, .ref q_t_order, .ref q_t_told, .int t_spot, .int t_toldRows, .ref q_t_rowsTaken, .ref q_t_columnsTaken, .ref q_t_ways, .ref q_t_scaled, .ref q_t_rowFactors, .ref q_t_columnFactors, .ref q_t_rest, .ref q_t_diagonals, .ref q_t_weights])), (q_t_z, .inl (G.2 0, 50, .inl t_z)), (q_t_order, .inl (G.2 0, 7, .inl t_order))] sz) := by
  refine Met.ofW (cc := cX10_number) (maxL := 3) (ret := (some .int)) (by decide) rfl ?_
  intro p e s m args below meth c s₁ B hml hv
  obtain ⟨rfl, hsz, hP, hK, hD0⟩ := hv
  subst hsz
  have hD := hD0.self (sz := s.heap.size)
  generalize hAe : va_A [(q_t, .inr (9, [.ref q_t_z, .ref q_t_old, .ref q_t_past, .int t_states, .ref q_t_kept, .int t_isKept, .ref q_t_text, .int t_length, .ref q_t_order, .ref q_t_told, .int t_spot, .int t_toldRows, .ref q_t_rowsTaken, .ref q_t_columnsTaken, .ref q_t_ways, .ref q_t_scaled, .ref q_t_rowFactors, .ref q_t_columnFactors, .ref q_t_rest, .ref q_t_diagonals, .ref q_t_weights])), (q_t_z, .inl (G.2 0, 50, .inl t_z)), (q_t_order, .inl (G.2 0, 7, .inl t_order))] s.heap.size = A at hD ⊢
  have hA : ∀ q : Nat, s.heap.size ≤ q → A q := fun q h => by rw [← hAe]; exact Or.inr h
  have hl := lv_entry ([.ref q_t]) (n := 3) (Nat.le_of_ble_eq_true rfl)
  rw [lg_entry_eq]
  refine k_X10_number ⟨B.exec, B.bytes, hml, findClass_of_methodNamed B.named, atoms_spec (ws := wsX10_number) B.pre⟩ G hK hA q_t q_t_z q_t_old q_t_past q_t_kept q_t_text q_t_order q_t_told q_t_rowsTaken q_t_columnsTaken q_t_ways q_t_scaled q_t_rowFactors q_t_columnFactors q_t_rest q_t_diagonals q_t_weights _ _ _ _ _ _ _ _ h ?_ _ _ _ hP hD va_S.rf hl
  intro H locs ls pc hd hP hD hS
  exact W.iret B.exec B.bytes B.returns (fun t ht hW => ⟨⟨r, (), rfl, rfl, by rw [ht]; exact hP, hD⟩, hS.F ht⟩) hS.2.2 hd B.notSynchronized
set_option maxRecDepth 20000 in
theorem wd_X10_isDiagonal_1 : Cond.fieldLink RX10 7 "PermanentDeskModel" "z" "[I" ∈ wsX10_isDiagonal := List.mem_of_getElem? (i := 1) (by decide +kernel)
set_option maxRecDepth 20000 in
theorem wi_X10_isDiagonal_X10 : ∀ w ∈ u_ws RX10 TX10 21, w ∈ wsX10_isDiagonal := by decide +kernel
set_option maxRecDepth 20000 in
theorem wd_X10_isDiagonal_2 : Cond.fieldLink RX10 25 "PermanentDeskModel" "order" "[I" ∈ wsX10_isDiagonal := List.mem_of_getElem? (i := 2) (by decide +kernel)
def f_X10_isDiagonal_L1  : (Int32 × Int32 × Int32 × (Nat → Int32)) → Option ((Int32 × Int32 × Int32 × (Nat → Int32)) ⊕ (Int32 × Int32 × (Nat → Int32)))
  | (x2, x3, x4, t_order) =>
    if x4 < 0 then
      some (.inr (x2, x3, t_order))
    else
      gd (okI x4 7) (
      pl ((upd t_order x4.toNatClampNeg (x2 - x2 / (10 : Int32) * (10 : Int32))) : Nat → Int32) (fun t_order_6 =>
      gd (okI x4 7) (
      pl ((x3 ||| ((1 : Int32) <<< ((t_order_6 x4.toNatClampNeg) &&& 31))) : Int32) (fun x3_8 =>
      pl ((x2 / (10 : Int32)) : Int32) (fun x2_9 =>
      pl ((x4 + (-1 : Int32)) : Int32) (fun x4_10 =>
      some (.inl (x2_9, x3_8, x4_10, t_order_6))))))))
def f_X10_isDiagonal (t_z : Nat → Int32) (t_order : Nat → Int32) (a1 : Int32) : Option (Int32 × (Nat → Int32)) :=
  if 0 ≤ a1 then
    gd (okI (49 : Int32) 50) (
    pl (((t_z (49 : Int32).toNatClampNeg) - (1 : Int32)) : Int32) (fun x4_3 =>
    (lpN (f_X10_isDiagonal_L1) FU (a1, (0 : Int32), x4_3, t_order)).bind (fun (x2_11, x3_12, t_order_13) =>
    if x2_11 = 0 then
      gd (okI (49 : Int32) 50) (
      if x3_12 = (((1 : Int32) <<< ((t_z (49 : Int32).toNatClampNeg) &&& 31)) - (1 : Int32)) then
        some ((1 : Int32), t_order_13)
      else
        some ((0 : Int32), t_order_13))
    else
      some ((0 : Int32), t_order_13))))
  else
    some ((0 : Int32), t_order)
set_option maxHeartbeats 4000000 in
set_option maxRecDepth 100000 in
theorem l_X10_isDiagonal_1 {p : Program} {l : Launch} {e : Env} {s : State} {m : MethodId} {args : Array Value} {below : List Frame} {meth : Method} {c : Code} {Q : State → Prop} {A0 : Nat → Prop} {H0 : Heap} (C : CallFix p m c cX10_isDiagonal 5 s args wsX10_isDiagonal RX10) (G : GT) (hK : gK G s) (hA : ∀ q : Nat, H0.size ≤ q → A0 q) (q_t q_t_z q_t_old q_t_past q_t_kept q_t_text q_t_order q_t_told q_t_rowsTaken q_t_columnsTaken q_t_ways q_t_scaled q_t_rowFactors q_t_columnFactors q_t_rest q_t_diagonals q_t_weights : Nat) (t_states : Int32) (t_isKept : Int32) (t_length : Int32) (t_spot : Int32) (t_toldRows : Int32) (t_z : Nat → Int32) (E_x2 : Int32) (E_x3 : Int32) (E_t_order : Nat → Int32) (K : ∀ (H : Heap) (locs : List Loc) (ls : Array Slot), va_P G.1 vwCl [(q_t, .inr (9, [.ref q_t_z, .ref q_t_old, .ref q_t_past, .int t_states, .ref q_t_kept, .int t_isKept, .ref q_t_text, .int t_length, .ref q_t_order, .ref q_t_told, .int t_spot, .int t_toldRows, .ref q_t_rowsTaken, .ref q_t_columnsTaken, .ref q_t_ways, .ref q_t_scaled, .ref q_t_rowFactors, .ref q_t_columnFactors, .ref q_t_rest, .ref q_t_diagonals, .ref q_t_weights])), (q_t_z, .inl (G.2 0, 50, .inl t_z)), (q_t_order, .inl (G.2 0, 7, .inl E_t_order))] H → va_D A0 [(q_t, .inr (9, [.ref q_t_z, .ref q_t_old, .ref q_t_past, .int t_states, .ref q_t_kept, .int t_isKept, .ref q_t_text, .int t_length, .ref q_t_order, .ref q_t_told, .int t_spot, .int t_toldRows, .ref q_t_rowsTaken, .ref q_t_columnsTaken, .ref q_t_ways, .ref q_t_scaled, .ref q_t_rowFactors, .ref q_t_columnFactors, .ref q_t_rest, .ref q_t_diagonals, .ref q_t_weights])), (q_t_z, .inl (G.2 0, 50, .inl t_z)), (q_t_order, .inl (G.2 0, 7, .inl E_t_order))] → va_S A0 H0 H locs → lv_has ls 5 [(0, .ref q_t), (2, .int E_x2), (3, .int E_x3)] → W p l e ({ frames := 0, cells := 0, slots := 0, locals := 0 } : Room) s m args below meth c H locs 0 0 Q (F0 m 60 ls [])) : ∀ (n : Nat) (x2 : Int32) (x3 : Int32) (x4 : Int32) (t_order : Nat → Int32), lpN (f_X10_isDiagonal_L1) n (x2, x3, x4, t_order) = some (E_x2, E_x3, E_t_order) → ∀ (H : Heap) (locs : List Loc) (ls : Array Slot), va_P G.1 vwCl [(q_t, .inr (9, [.ref q_t_z, .ref q_t_old, .ref q_t_past, .int t_states, .ref q_t_kept, .int t_isKept, .ref q_t_text, .int t_length, .ref q_t_order, .ref q_t_told, .int t_spot, .int t_toldRows, .ref q_t_rowsTaken, .ref q_t_columnsTaken, .ref q_t_ways, .ref q_t_scaled, .ref q_t_rowFactors, .ref q_t_columnFactors, .ref q_t_rest, .ref q_t_diagonals, .ref q_t_weights])), (q_t_z, .inl (G.2 0, 50, .inl t_z)), (q_t_order, .inl (G.2 0, 7, .inl t_order))] H → va_D A0 [(q_t, .inr (9, [.ref q_t_z, .ref q_t_old, .ref q_t_past, .int t_states, .ref q_t_kept, .int t_isKept, .ref q_t_text, .int t_length, .ref q_t_order, .ref q_t_told, .int t_spot, .int t_toldRows, .ref q_t_rowsTaken, .ref q_t_columnsTaken, .ref q_t_ways, .ref q_t_scaled, .ref q_t_rowFactors, .ref q_t_columnFactors, .ref q_t_rest, .ref q_t_diagonals, .ref q_t_weights])), (q_t_z, .inl (G.2 0, 50, .inl t_z)), (q_t_order, .inl (G.2 0, 7, .inl t_order))] → va_S A0 H0 H locs → lv_has ls 5 [(0, .ref q_t), (2, .int x2), (3, .int x3), (4, .int x4)] → W p l e ({ frames := 0, cells := 0, slots := 0, locals := 0 } : Room) s m args below meth c H locs 0 0 Q (F0 m 21 ls []) := by
  obtain ⟨hx, hb, hml, hown, hts⟩ := C
  intro n
  induction n with
  | zero => intro x2 x3 x4 t_order h; exact absurd h (fun h => lp_0 h)
  | succ n ih =>
    intro x2 x3 x4 t_order h H locs ls hP hD hS hl
    obtain ⟨y, h, hk⟩ := lp_s h
    rw [f_X10_isDiagonal_L1] at h
    refine lv_iload hx hb dX10_isDiagonal_21 (lv_at hl 3 rfl) ?_
    refine lv_if_lt (tgt := 60) hx hb dX10_isDiagonal_23 (by decide) (fun c_4 => ?_) (fun c_4 => ?_)
    · replace h := it_t h c_4
      obtain rfl := sm1 h
      obtain ⟨rfl, rfl, rfl⟩ := sm3 hk
      exact K H locs ls hP hD hS (lv_sub hl [0, 1, 2] rfl)
    · replace h := it_f h c_4
      refine lv_aload_n hx hb dX10_isDiagonal_26 rfl (lv_at hl 0 rfl) ?_
      refine va_get (D := G.1) (ci := 9) (v := .ref q_t_order) (C := RX10) (T := TX10) (N := 21) hx hb hts wi_X10_isDiagonal_X10 hown hK hP 0 rfl rfl 8 (by decide) (hts _ wd_X10_isDiagonal_2) (fun _ h9 => h9) rfl dX10_isDiagonal_27 ?_
      refine lv_iload hx hb dX10_isDiagonal_30 (lv_at hl 3 rfl) ?_
      refine lv_iload_n hx hb dX10_isDiagonal_32 rfl (lv_at hl 1 rfl) ?_
      refine lv_bipush (v := 10) hx hb dX10_isDiagonal_33 (by decide) ?_
      refine lv_irem hx hb dX10_isDiagonal_35 (by decide) ?_
      obtain ⟨g_5, h⟩ := gd_ok h
      obtain ⟨t_order_6, et_order_6, h⟩ := pl_ok h
      refine st_i (D := G.1) (wn := [(q_t, .inr (9, [.ref q_t_z, .ref q_t_old, .ref q_t_past, .int t_states, .ref q_t_kept, .int t_isKept, .ref q_t_text, .int t_length, .ref q_t_order, .ref q_t_told, .int t_spot, .int t_toldRows, .ref q_t_rowsTaken, .ref q_t_columnsTaken, .ref q_t_ways, .ref q_t_scaled, .ref q_t_rowFactors, .ref q_t_columnFactors, .ref q_t_rest, .ref q_t_diagonals, .ref q_t_weights])), (q_t_z, .inl (G.2 0, 50, .inl t_z)), (q_t_order, .inl (G.2 0, 7, .inl t_order_6))]) hx hb hK hP hD hS 2 0 rfl rfl g_5 dX10_isDiagonal_36 et_order_6 rfl (fun H locs hP hD hS => ?_)
      refine lv_iload_n hx hb dX10_isDiagonal_37 rfl (lv_at hl 2 rfl) ?_
      refine lv_iconst (v := 1) hx hb dX10_isDiagonal_38 (by decide) ?_
      refine lv_aload_n hx hb dX10_isDiagonal_39 rfl (lv_at hl 0 rfl) ?_
      refine va_get (D := G.1) (ci := 9) (v := .ref q_t_order) (C := RX10) (T := TX10) (N := 21) hx hb hts wi_X10_isDiagonal_X10 hown hK hP 0 rfl rfl 8 (by decide) (hts _ wd_X10_isDiagonal_2) (fun _ h9 => h9) rfl dX10_isDiagonal_40 ?_
      refine lv_iload hx hb dX10_isDiagonal_43 (lv_at hl 3 rfl) ?_
      obtain ⟨g_7, h⟩ := gd_ok h
      refine va_iald (D := G.1) hx hb hK hP 2 0 rfl rfl g_7 dX10_isDiagonal_45 ?_
      refine lv_ishl hx hb dX10_isDiagonal_46 ?_
      refine lv_ior hx hb dX10_isDiagonal_47 ?_
      refine lv_topi (fun x3_8 ex3_8 => ?_)
      replace h := pl_v h ex3_8
      refine lv_istore_n (lv' := [(3, .int x3_8), (0, .ref q_t), (2, .int x2), (4, .int x4)]) hx hb dX10_isDiagonal_48 rfl hl (by decide) rfl (fun ls hl => ?_)
      refine lv_iload_n hx hb dX10_isDiagonal_49 rfl (lv_at hl 2 rfl) ?_
      refine lv_bipush (v := 10) hx hb dX10_isDiagonal_50 (by decide) ?_
      refine lv_idiv hx hb dX10_isDiagonal_52 (by decide) ?_
      refine lv_topi (fun x2_9 ex2_9 => ?_)
      replace h := pl_v h ex2_9
      refine lv_istore_n (lv' := [(2, .int x2_9), (3, .int x3_8), (0, .ref q_t), (4, .int x4)]) hx hb dX10_isDiagonal_53 rfl hl (by decide) rfl (fun ls hl => ?_)
      obtain ⟨x4_10, ex4_10, h⟩ := pl_ok h
      refine lv_iinc (v := x4_10) (lv' := [(4, .int x4_10), (2, .int x2_9), (3, .int x3_8), (0, .ref q_t)]) hx hb dX10_isDiagonal_54 hl (k := 3) rfl (by rw [ex4_10]; rfl) (by decide) rfl (fun ls hl => ?_)
      refine lv_goto (tgt := 21) hx hb dX10_isDiagonal_57 (by decide) ?_
      obtain rfl := sm1 h
      exact ih x2_9 x3_8 x4_10 t_order_6 hk H locs ls hP hD hS (lv_sub hl [3, 1, 2, 0] rfl)
set_option maxHeartbeats 4000000 in
set_option maxRecDepth 100000 in
theorem k_X10_isDiagonal {p : Program} {l : Launch} {e : Env} {s : State} {m : MethodId} {args : Array Value} {below : List Frame} {meth : Method} {c : Code} {Q : State → Prop} {A0 : Nat → Prop} {H0 : Heap} (C : CallFix p m c cX10_isDiagonal 5 s args wsX10_isDiagonal RX10) (G : GT) (hK : gK G s) (hA : ∀ q : Nat, H0.size ≤ q → A0 q) (q_t q_t_z q_t_old q_t_past q_t_kept q_t_text q_t_order q_t_told q_t_rowsTaken q_t_columnsTaken q_t_ways q_t_scaled q_t_rowFactors q_t_columnFactors q_t_rest q_t_diagonals q_t_weights : Nat) (t_states : Int32) (t_isKept : Int32) (t_length : Int32) (t_spot : Int32) (t_toldRows : Int32) (t_z : Nat → Int32) (t_order : Nat → Int32) (a1 : Int32) (r : Int32) (o_t_order : Nat → Int32) (h : f_X10_isDiagonal t_z t_order a1 = some (r, o_t_order)) (KR : ∀ (H : Heap) (locs : List Loc) (ls : Array Slot) (pc : Nat), decode cX10_isDiagonal pc = .ok (.ireturn, 1) → (r = 0 ∨ r = 1) → va_P G.1 vwCl [(q_t, .inr (9, [.ref q_t_z, .ref q_t_old, .ref q_t_past, .int t_states, .ref q_t_kept, .int t_isKept, .ref q_t_text, .int t_length, .ref q_t_order, .ref q_t_told, .int t_spot, .int t_toldRows, .ref q_t_rowsTaken, .ref q_t_columnsTaken, .ref q_t_ways, .ref q_t_scaled, .ref q_t_rowFactors, .ref q_t_columnFactors, .ref q_t_rest, .ref q_t_diagonals, .ref q_t_weights])), (q_t_z, .inl (G.2 0, 50, .inl t_z)), (q_t_order, .inl (G.2 0, 7, .inl o_t_order))] H → va_D A0 [(q_t, .inr (9, [.ref q_t_z, .ref q_t_old, .ref q_t_past, .int t_states, .ref q_t_kept, .int t_isKept, .ref q_t_text, .int t_length, .ref q_t_order, .ref q_t_told, .int t_spot, .int t_toldRows, .ref q_t_rowsTaken, .ref q_t_columnsTaken, .ref q_t_ways, .ref q_t_scaled, .ref q_t_rowFactors, .ref q_t_columnFactors, .ref q_t_rest, .ref q_t_diagonals, .ref q_t_weights])), (q_t_z, .inl (G.2 0, 50, .inl t_z)), (q_t_order, .inl (G.2 0, 7, .inl o_t_order))] → va_S A0 H0 H locs → W p l e ({ frames := 0, cells := 0, slots := 0, locals := 0 } : Room) s m args below meth c H locs 0 0 Q (F0 m pc ls [.int r])) : ∀ (H : Heap) (locs : List Loc) (ls : Array Slot), va_P G.1 vwCl [(q_t, .inr (9, [.ref q_t_z, .ref q_t_old, .ref q_t_past, .int t_states, .ref q_t_kept, .int t_isKept, .ref q_t_text, .int t_length, .ref q_t_order, .ref q_t_told, .int t_spot, .int t_toldRows, .ref q_t_rowsTaken, .ref q_t_columnsTaken, .ref q_t_ways, .ref q_t_scaled, .ref q_t_rowFactors, .ref q_t_columnFactors, .ref q_t_rest, .ref q_t_diagonals, .ref q_t_weights])), (q_t_z, .inl (G.2 0, 50, .inl t_z)), (q_t_order, .inl (G.2 0, 7, .inl t_order))] H → va_D A0 [(q_t, .inr (9, [.ref q_t_z, .ref q_t_old, .ref q_t_past, .int t_states, .ref q_t_kept, .int t_isKept, .ref q_t_text, .int t_length, .ref q_t_order, .ref q_t_told, .int t_spot, .int t_toldRows, .ref q_t_rowsTaken, .ref q_t_columnsTaken, .ref q_t_ways, .ref q_t_scaled, .ref q_t_rowFactors, .ref q_t_columnFactors, .ref q_t_rest, .ref q_t_diagonals, .ref q_t_weights])), (q_t_z, .inl (G.2 0, 50, .inl t_z)), (q_t_order, .inl (G.2 0, 7, .inl t_order))] → va_S A0 H0 H locs → lv_has ls 5 [(0, .ref q_t), (1, .int a1)] → W p l e ({ frames := 0, cells := 0, slots := 0, locals := 0 } : Room) s m args below meth c H locs 0 0 Q (F0 m 0 ls []) := by
  obtain ⟨hx, hb, hml, hown, hts⟩ := C
  intro H locs ls hP hD hS hl
  rw [f_X10_isDiagonal] at h
  refine lv_iload_n hx hb dX10_isDiagonal_0 rfl (lv_at hl 1 rfl) ?_
  refine lv_if_ge (tgt := 6) hx hb dX10_isDiagonal_1 (by decide) (fun c_1 => ?_) (fun c_1 => ?_)
  · replace h := it_t h c_1
    refine lv_iload_n hx hb dX10_isDiagonal_6 rfl (lv_at hl 1 rfl) ?_
    refine lv_istore_n (lv' := [(2, .int a1), (0, .ref q_t), (1, .int a1)]) hx hb dX10_isDiagonal_7 rfl hl (by decide) rfl (fun ls hl => ?_)
    refine lv_iconst (v := 0) hx hb dX10_isDiagonal_8 (by decide) ?_
    refine lv_istore_n (lv' := [(3, .int (0 : Int32)), (2, .int a1), (0, .ref q_t), (1, .int a1)]) hx hb dX10_isDiagonal_9 rfl hl (by decide) rfl (fun ls hl => ?_)
    refine lv_aload_n hx hb dX10_isDiagonal_10 rfl (lv_at hl 2 rfl) ?_
    refine va_get (D := G.1) (ci := 9) (v := .ref q_t_z) (C := RX10) (T := TX10) (N := 21) hx hb hts wi_X10_isDiagonal_X10 hown hK hP 0 rfl rfl 0 (by decide) (hts _ wd_X10_isDiagonal_1) (fun _ h9 => h9) rfl dX10_isDiagonal_11 ?_
    refine lv_bipush (v := 49) hx hb dX10_isDiagonal_14 (by decide) ?_
    obtain ⟨g_2, h⟩ := gd_ok h
    refine va_iald (D := G.1) hx hb hK hP 1 0 rfl rfl g_2 dX10_isDiagonal_16 ?_
    refine lv_iconst (v := 1) hx hb dX10_isDiagonal_17 (by decide) ?_
    refine lv_isub hx hb dX10_isDiagonal_18 ?_
    refine lv_topi (fun x4_3 ex4_3 => ?_)
    replace h := pl_v h ex4_3
    refine lv_istore (lv' := [(4, .int x4_3), (3, .int (0 : Int32)), (2, .int a1), (0, .ref q_t), (1, .int a1)]) hx hb dX10_isDiagonal_19 hl (by decide) rfl (fun ls hl => ?_)
    obtain ⟨⟨x2_11, x3_12, t_order_13⟩, hz_15, h⟩ := bd_ok h
    refine l_X10_isDiagonal_1 ⟨hx, hb, hml, hown, hts⟩ G hK hA q_t q_t_z q_t_old q_t_past q_t_kept q_t_text q_t_order q_t_told q_t_rowsTaken q_t_columnsTaken q_t_ways q_t_scaled q_t_rowFactors q_t_columnFactors q_t_rest q_t_diagonals q_t_weights t_states t_isKept t_length t_spot t_toldRows t_z x2_11 x3_12 t_order_13 ?_ FU a1 (0 : Int32) x4_3 t_order hz_15 H locs ls hP hD hS (lv_sub hl [3, 2, 1, 0] rfl)
    intro H locs ls hP hD hS hl
    refine lv_iload_n hx hb dX10_isDiagonal_60 rfl (lv_at hl 1 rfl) ?_
    refine lv_if_ne (tgt := 83) hx hb dX10_isDiagonal_61 (by decide) (fun c_16 => ?_) (fun c_16 => ?_)
    · replace h := it_f h c_16
      refine lv_iconst (v := 0) hx hb dX10_isDiagonal_83 (by decide) ?_
      obtain ⟨rfl, rfl⟩ := sm2 h
      exact KR H locs ls 84 dX10_isDiagonal_84 (Or.inl rfl) hP hD hS
    · replace h := it_t h c_16
      refine lv_iload_n hx hb dX10_isDiagonal_64 rfl (lv_at hl 2 rfl) ?_
      refine lv_iconst (v := 1) hx hb dX10_isDiagonal_65 (by decide) ?_
      refine lv_aload_n hx hb dX10_isDiagonal_66 rfl (lv_at hl 0 rfl) ?_
      refine va_get (D := G.1) (ci := 9) (v := .ref q_t_z) (C := RX10) (T := TX10) (N := 21) hx hb hts wi_X10_isDiagonal_X10 hown hK hP 0 rfl rfl 0 (by decide) (hts _ wd_X10_isDiagonal_1) (fun _ h9 => h9) rfl dX10_isDiagonal_67 ?_
      refine lv_bipush (v := 49) hx hb dX10_isDiagonal_70 (by decide) ?_
      obtain ⟨g_17, h⟩ := gd_ok h
      refine va_iald (D := G.1) hx hb hK hP 1 0 rfl rfl g_17 dX10_isDiagonal_72 ?_
      refine lv_ishl hx hb dX10_isDiagonal_73 ?_
      refine lv_iconst (v := 1) hx hb dX10_isDiagonal_74 (by decide) ?_
      refine lv_isub hx hb dX10_isDiagonal_75 ?_
      refine lv_icmp_ne (tgt := 83) hx hb dX10_isDiagonal_76 (by decide) (fun c_18 => ?_) (fun c_18 => ?_)
      · replace h := it_f h c_18
        refine lv_iconst (v := 0) hx hb dX10_isDiagonal_83 (by decide) ?_
        obtain ⟨rfl, rfl⟩ := sm2 h
        exact KR H locs ls 84 dX10_isDiagonal_84 (Or.inl rfl) hP hD hS
      · replace h := it_t h c_18
        refine lv_iconst (v := 1) hx hb dX10_isDiagonal_79 (by decide) ?_
        refine lv_goto (tgt := 84) hx hb dX10_isDiagonal_80 (by decide) ?_
        obtain ⟨rfl, rfl⟩ := sm2 h
        exact KR H locs ls 84 dX10_isDiagonal_84 (Or.inr rfl) hP hD hS
  · replace h := it_f h c_1
    refine lv_iconst (v := 0) hx hb dX10_isDiagonal_4 (by decide) ?_
    obtain ⟨rfl, rfl⟩ := sm2 h
    exact KR H locs ls 5 dX10_isDiagonal_5 (Or.inl rfl) hP hD hS
set_option maxHeartbeats 4000000 in
set_option maxRecDepth 100000 in
theorem c_X10_isDiagonal (l : Launch) (G : GT) (q_t q_t_z q_t_old q_t_past q_t_kept q_t_text q_t_order q_t_told q_t_rowsTaken q_t_columnsTaken q_t_ways q_t_scaled q_t_rowFactors q_t_columnFactors q_t_rest q_t_diagonals q_t_weights : Nat) (sz : Nat) (t_states : Int32) (t_isKept : Int32) (t_length : Int32) (t_spot : Int32) (t_toldRows : Int32) (t_z : Nat → Int32) (t_order : Nat → Int32) (a1 : Int32) (r : Int32) (o_t_order : Nat → Int32) (h : f_X10_isDiagonal t_z t_order a1 = some (r, o_t_order)) : Met l yX10_isDiagonal wsX10_isDiagonal ({ frames := 0, cells := 0, slots := 0, locals := 0 } : Room) (va_Pc [.ref q_t, .int a1] (pcW G [(q_t, .inr (9, [.ref q_t_z, .ref q_t_old, .ref q_t_past, .int t_states, .ref q_t_kept, .int t_isKept, .ref q_t_text, .int t_length, .ref q_t_order, .ref q_t_told, .int t_spot, .int t_toldRows, .ref q_t_rowsTaken, .ref q_t_columnsTaken, .ref q_t_ways, .ref q_t_scaled, .ref q_t_rowFactors, .ref q_t_columnFactors, .ref q_t_rest, .ref q_t_diagonals, .ref q_t_weights])), (q_t_z, .inl (G.2 0, 50, .inl t_z)), (q_t_order, .inl (G.2 0, 7, .inl t_order))] sz)) (va_Qi (fun r9 (_ : Unit) => r9 = r) (fun _ t => atW G (va_A [(q_t, .inr (9, [.ref q_t_z, .ref q_t_old, .ref q_t_past, .int t_states, .ref q_t_kept, .int t_isKept, .ref q_t_text, .int t_length, .ref q_t_order, .ref q_t_told, .int t_spot, .int t_toldRows, .ref q_t_rowsTaken, .ref q_t_columnsTaken, .ref q_t_ways, .ref q_t_scaled, .ref q_t_rowFactors, .ref q_t_columnFactors, .ref q_t_rest, .ref q_t_diagonals, .ref q_t_weights])), (q_t_z, .inl (G.2 0, 50, .inl t_z)), (q_t_order, .inl (G.2 0, 7, .inl t_order))] sz) [(q_t, .inr (9, [.ref q_t_z, .ref q_t_old, .ref q_t_past, .int t_states, .ref q_t_kept, .int t_isKept, .ref q_t_text, .int t_length, .ref q_t_order, .ref q_t_told, .int t_spot, .int t_toldRows, .ref q_t_rowsTaken, .ref q_t_columnsTaken, .ref q_t_ways, .ref q_t_scaled, .ref q_t_rowFactors, .ref q_t_columnFactors, .ref q_t_rest, .ref q_t_diagonals, .ref q_t_weights])), (q_t_z, .inl (G.2 0, 50, .inl t_z)), (q_t_order, .inl (G.2 0, 7, .inl o_t_order))] t) (va_A [(q_t, .inr (9, [.ref q_t_z, .ref q_t_old, .ref q_t_past, .int t_states, .ref q_t_kept, .int t_isKept, .ref q_t_text, .int t_length, .ref q_t_order, .ref q_t_told, .int t_spot, .int t_toldRows, .ref q_t_rowsTaken, .ref q_t_columnsTaken, .ref q_t_ways, .ref q_t_scaled, .ref q_t_rowFactors, .ref q_t_columnFactors, .ref q_t_rest, .ref q_t_diagonals, .ref q_t_weights])), (q_t_z, .inl (G.2 0, 50, .inl t_z)), (q_t_order, .inl (G.2 0, 7, .inl t_order))] sz)) 0 0 (va_A [(q_t, .inr (9, [.ref q_t_z, .ref q_t_old, .ref q_t_past, .int t_states, .ref q_t_kept, .int t_isKept, .ref q_t_text, .int t_length, .ref q_t_order, .ref q_t_told, .int t_spot, .int t_toldRows, .ref q_t_rowsTaken, .ref q_t_columnsTaken, .ref q_t_ways, .ref q_t_scaled, .ref q_t_rowFactors, .ref q_t_columnFactors, .ref q_t_rest, .ref q_t_diagonals, .ref q_t_weights])), (q_t_z, .inl (G.2 0, 50, .inl t_z)), (q_t_order, .inl (G.2 0, 7, .inl t_order))] sz) := by
  refine Met.ofW (cc := cX10_isDiagonal) (maxL := 5) (ret := (some .boolean)) (by decide) rfl ?_
  intro p e s m args below meth c s₁ B hml hv
  obtain ⟨rfl, hsz, hP, hK, hD0⟩ := hv
  subst hsz
  have hD := hD0.self (sz := s.heap.size)
  generalize hAe : va_A [(q_t, .inr (9, [.ref q_t_z, .ref q_t_old, .ref q_t_past, .int t_states, .ref q_t_kept, .int t_isKept, .ref q_t_text, .int t_length, .ref q_t_order, .ref q_t_told, .int t_spot, .int t_toldRows, .ref q_t_rowsTaken, .ref q_t_columnsTaken, .ref q_t_ways, .ref q_t_scaled, .ref q_t_rowFactors, .ref q_t_columnFactors, .ref q_t_rest, .ref q_t_diagonals, .ref q_t_weights])), (q_t_z, .inl (G.2 0, 50, .inl t_z)), (q_t_order, .inl (G.2 0, 7, .inl t_order))] s.heap.size = A at hD ⊢
  have hA : ∀ q : Nat, s.heap.size ≤ q → A q := fun q h => by rw [← hAe]; exact Or.inr h
  have hl := lv_entry ([.ref q_t, .int a1]) (n := 5) (Nat.le_of_ble_eq_true rfl)
  rw [lg_entry_eq]
  refine k_X10_isDiagonal ⟨B.exec, B.bytes, hml, findClass_of_methodNamed B.named, atoms_spec (ws := wsX10_isDiagonal) B.pre⟩ G hK hA q_t q_t_z q_t_old q_t_past q_t_kept q_t_text q_t_order q_t_told q_t_rowsTaken q_t_columnsTaken q_t_ways q_t_scaled q_t_rowFactors q_t_columnFactors q_t_rest q_t_diagonals q_t_weights _ _ _ _ _ _ _ _ _ _ h ?_ _ _ _ hP hD va_S.rf hl
  intro H locs ls pc hd hbo hP hD hS
  exact W.zret B.exec B.bytes B.returns (by rcases hbo with e | e <;> subst e <;> rfl) (fun t ht hW => ⟨⟨r, (), rfl, rfl, by rw [ht]; exact hP, hD⟩, hS.F ht⟩) hS.2.2 hd B.notSynchronized
set_option maxRecDepth 20000 in
theorem wd_X10_add_2 : Cond.fieldLink RX10 7 "PermanentDeskModel" "z" "[I" ∈ wsX10_add := List.mem_of_getElem? (i := 2) (by decide +kernel)
set_option maxRecDepth 20000 in
theorem wi_X10_add_X10 : ∀ w ∈ u_ws RX10 TX10 21, w ∈ wsX10_add := by decide +kernel
set_option maxRecDepth 20000 in
theorem wd_X10_add_3 : Cond.fieldLink RX10 25 "PermanentDeskModel" "order" "[I" ∈ wsX10_add := List.mem_of_getElem? (i := 3) (by decide +kernel)
set_option maxRecDepth 20000 in
theorem wd_X10_add_4 : Cond.constant RX10 104 (-2000000004) ∈ wsX10_add := List.mem_of_getElem? (i := 4) (by decide +kernel)
set_option maxRecDepth 20000 in
theorem wd_X10_add_1 : Cond.constant RX10 92 (-2000000001) ∈ wsX10_add := List.mem_of_getElem? (i := 1) (by decide +kernel)
def f_X10_add_L1 (t_states : Int32) (t_z : Nat → Int32) (t_past : Nat → Int32) (t_order : Nat → Int32) : (Int32 × Int32) → Option ((Int32 × Int32) ⊕ (Int32 ⊕ (Int32 × Int32 × (Nat → Int32) × (Nat → Int32) × (Nat → Int32))))
  | (x2, x3) =>
    gd (okI (49 : Int32) 50) (
    if (t_z (49 : Int32).toNatClampNeg) ≤ x3 then
      some (.inr (.inl x2))
    else
      gd (okI x3 7) (
      (f_X10_at t_z x3 (t_order x3.toNatClampNeg)).bind (fun r_8 =>
      if r_8 = (20 : Int32) then
        some (.inr (.inr ((-2000000004 : Int32), t_states, t_z, t_past, t_order)))
      else
        gd (okI x3 7) (
        (f_X10_at t_z x3 (t_order x3.toNatClampNeg)).bind (fun r_12 =>
        pl ((x2 + (r_12 + (1 : Int32))) : Int32) (fun x2_14 =>
        pl ((x3 + (1 : Int32)) : Int32) (fun x3_15 =>
        some (.inl (x2_14, x3_15)))))))))
def f_X10_add_L2 (t_order : Nat → Int32) : (Int32 × (Nat → Int32)) → Option ((Int32 × (Nat → Int32)) ⊕ (Nat → Int32))
  | (x3, t_z) =>
    gd (okI (49 : Int32) 50) (
    if (t_z (49 : Int32).toNatClampNeg) ≤ x3 then
      some (.inr t_z)
    else
      gd (okI x3 7) (
      pl ((((7 : Int32) * x3) + (t_order x3.toNatClampNeg)) : Int32) (fun v_25 =>
      gd (okI v_25 50) (
      gd (okI v_25 50) (
      pl ((upd t_z v_25.toNatClampNeg ((t_z v_25.toNatClampNeg) + (1 : Int32))) : Nat → Int32) (fun t_z_28 =>
      pl ((x3 + (1 : Int32)) : Int32) (fun x3_29 =>
      some (.inl (x3_29, t_z_28)))))))))
def f_X10_add (t_states : Int32) (t_z : Nat → Int32) (t_past : Nat → Int32) (t_order : Nat → Int32) (a1 : Int32) : Option (Int32 × Int32 × (Nat → Int32) × (Nat → Int32) × (Nat → Int32)) :=
  (f_X10_isDiagonal t_z t_order a1).bind (fun (r_2, t_order_1) =>
  if r_2 = 0 then
    some ((-2000000001 : Int32), t_states, t_z, t_past, t_order_1)
  else
    (lpN (f_X10_add_L1 t_states t_z t_past t_order_1) FU ((0 : Int32), (0 : Int32))).bind (fun z_17 => match z_17 with
    | .inl x2_16 =>
      (f_X10_record t_states t_z t_past).bind (fun (t_states_19, t_past_20) =>
      (lpN (f_X10_add_L2 t_order_1) FU ((0 : Int32), t_z)).bind (fun t_z_30 =>
      some (x2_16, t_states_19, t_z_30, t_past_20, t_order_1)))
    | .inr (r_33, t_states_34, t_z_35, t_past_36, t_order_37) => some (r_33, t_states_34, t_z_35, t_past_36, t_order_37)))
set_option maxHeartbeats 4000000 in
set_option maxRecDepth 100000 in
theorem l_X10_add_1 {p : Program} {l : Launch} {e : Env} {s : State} {m : MethodId} {args : Array Value} {below : List Frame} {meth : Method} {c : Code} {Q : State → Prop} {A0 : Nat → Prop} {H0 : Heap} (C : CallFix p m c cX10_add 4 s args wsX10_add RX10) (G : GT) (hK : gK G s) (hA : ∀ q : Nat, H0.size ≤ q → A0 q) (q_t q_t_z q_t_old q_t_past q_t_kept q_t_text q_t_order q_t_told q_t_rowsTaken q_t_columnsTaken q_t_ways q_t_scaled q_t_rowFactors q_t_columnFactors q_t_rest q_t_diagonals q_t_weights : Nat) (t_states : Int32) (t_isKept : Int32) (t_length : Int32) (t_spot : Int32) (t_toldRows : Int32) (t_z : Nat → Int32) (t_past : Nat → Int32) (t_order : Nat → Int32) (z : (Int32 ⊕ (Int32 × Int32 × (Nat → Int32) × (Nat → Int32) × (Nat → Int32)))) (K : ∀ (E_x2 : Int32), z = .inl E_x2 → ∀ (H : Heap) (locs : List Loc) (ls : Array Slot), va_P G.1 vwCl [(q_t, .inr (9, [.ref q_t_z, .ref q_t_old, .ref q_t_past, .int t_states, .ref q_t_kept, .int t_isKept, .ref q_t_text, .int t_length, .ref q_t_order, .ref q_t_told, .int t_spot, .int t_toldRows, .ref q_t_rowsTaken, .ref q_t_columnsTaken, .ref q_t_ways, .ref q_t_scaled, .ref q_t_rowFactors, .ref q_t_columnFactors, .ref q_t_rest, .ref q_t_diagonals, .ref q_t_weights])), (q_t_z, .inl (G.2 0, 50, .inl t_z)), (q_t_past, .inl (G.2 0, 200, .inl t_past)), (q_t_order, .inl (G.2 0, 7, .inl t_order))] H → va_D A0 [(q_t, .inr (9, [.ref q_t_z, .ref q_t_old, .ref q_t_past, .int t_states, .ref q_t_kept, .int t_isKept, .ref q_t_text, .int t_length, .ref q_t_order, .ref q_t_told, .int t_spot, .int t_toldRows, .ref q_t_rowsTaken, .ref q_t_columnsTaken, .ref q_t_ways, .ref q_t_scaled, .ref q_t_rowFactors, .ref q_t_columnFactors, .ref q_t_rest, .ref q_t_diagonals, .ref q_t_weights])), (q_t_z, .inl (G.2 0, 50, .inl t_z)), (q_t_past, .inl (G.2 0, 200, .inl t_past)), (q_t_order, .inl (G.2 0, 7, .inl t_order))] → va_S A0 H0 H locs → lv_has ls 4 [(0, .ref q_t), (2, .int E_x2)] → W p l e ({ frames := 3, cells := 0, slots := 0, locals := 66 } : Room) s m args below meth c H locs 0 0 Q (F0 m 67 ls [])) (KR : ∀ (r : Int32) (o_t_states : Int32) (o_t_z : Nat → Int32) (o_t_past : Nat → Int32) (o_t_order : Nat → Int32), z = .inr (r, o_t_states, o_t_z, o_t_past, o_t_order) → ∀ (H : Heap) (locs : List Loc) (ls : Array Slot) (pc : Nat), decode cX10_add pc = .ok (.ireturn, 1) → va_P G.1 vwCl [(q_t, .inr (9, [.ref q_t_z, .ref q_t_old, .ref q_t_past, .int o_t_states, .ref q_t_kept, .int t_isKept, .ref q_t_text, .int t_length, .ref q_t_order, .ref q_t_told, .int t_spot, .int t_toldRows, .ref q_t_rowsTaken, .ref q_t_columnsTaken, .ref q_t_ways, .ref q_t_scaled, .ref q_t_rowFactors, .ref q_t_columnFactors, .ref q_t_rest, .ref q_t_diagonals, .ref q_t_weights])), (q_t_z, .inl (G.2 0, 50, .inl o_t_z)), (q_t_past, .inl (G.2 0, 200, .inl o_t_past)), (q_t_order, .inl (G.2 0, 7, .inl o_t_order))] H → va_D A0 [(q_t, .inr (9, [.ref q_t_z, .ref q_t_old, .ref q_t_past, .int o_t_states, .ref q_t_kept, .int t_isKept, .ref q_t_text, .int t_length, .ref q_t_order, .ref q_t_told, .int t_spot, .int t_toldRows, .ref q_t_rowsTaken, .ref q_t_columnsTaken, .ref q_t_ways, .ref q_t_scaled, .ref q_t_rowFactors, .ref q_t_columnFactors, .ref q_t_rest, .ref q_t_diagonals, .ref q_t_weights])), (q_t_z, .inl (G.2 0, 50, .inl o_t_z)), (q_t_past, .inl (G.2 0, 200, .inl o_t_past)), (q_t_order, .inl (G.2 0, 7, .inl o_t_order))] → va_S A0 H0 H locs → W p l e ({ frames := 3, cells := 0, slots := 0, locals := 66 } : Room) s m args below meth c H locs 0 0 Q (F0 m pc ls [.int r])) : ∀ (n : Nat) (x2 : Int32) (x3 : Int32), lpN (f_X10_add_L1 t_states t_z t_past t_order) n (x2, x3) = some z → ∀ (H : Heap) (locs : List Loc) (ls : Array Slot), va_P G.1 vwCl [(q_t, .inr (9, [.ref q_t_z, .ref q_t_old, .ref q_t_past, .int t_states, .ref q_t_kept, .int t_isKept, .ref q_t_text, .int t_length, .ref q_t_order, .ref q_t_told, .int t_spot, .int t_toldRows, .ref q_t_rowsTaken, .ref q_t_columnsTaken, .ref q_t_ways, .ref q_t_scaled, .ref q_t_rowFactors, .ref q_t_columnFactors, .ref q_t_rest, .ref q_t_diagonals, .ref q_t_weights])), (q_t_z, .inl (G.2 0, 50, .inl t_z)), (q_t_past, .inl (G.2 0, 200, .inl t_past)), (q_t_order, .inl (G.2 0, 7, .inl t_order))] H → va_D A0 [(q_t, .inr (9, [.ref q_t_z, .ref q_t_old, .ref q_t_past, .int t_states, .ref q_t_kept, .int t_isKept, .ref q_t_text, .int t_length, .ref q_t_order, .ref q_t_told, .int t_spot, .int t_toldRows, .ref q_t_rowsTaken, .ref q_t_columnsTaken, .ref q_t_ways, .ref q_t_scaled, .ref q_t_rowFactors, .ref q_t_columnFactors, .ref q_t_rest, .ref q_t_diagonals, .ref q_t_weights])), (q_t_z, .inl (G.2 0, 50, .inl t_z)), (q_t_past, .inl (G.2 0, 200, .inl t_past)), (q_t_order, .inl (G.2 0, 7, .inl t_order))] → va_S A0 H0 H locs → lv_has ls 4 [(0, .ref q_t), (2, .int x2), (3, .int x3)] → W p l e ({ frames := 3, cells := 0, slots := 0, locals := 66 } : Room) s m args below meth c H locs 0 0 Q (F0 m 15 ls []) := by
  obtain ⟨hx, hb, hml, hown, hts⟩ := C
  intro n
  induction n with
  | zero => intro x2 x3 h; exact absurd h (fun h => lp_0 h)
  | succ n ih =>
    intro x2 x3 h H locs ls hP hD hS hl
    obtain ⟨y, h, hk⟩ := lp_s h
    rw [f_X10_add_L1] at h
    refine lv_iload_n hx hb dX10_add_15 rfl (lv_at hl 2 rfl) ?_
    refine lv_aload_n hx hb dX10_add_16 rfl (lv_at hl 0 rfl) ?_
    refine va_get (D := G.1) (ci := 9) (v := .ref q_t_z) (C := RX10) (T := TX10) (N := 21) hx hb hts wi_X10_add_X10 hown hK hP 0 rfl rfl 0 (by decide) (hts _ wd_X10_add_2) (fun _ h9 => h9) rfl dX10_add_17 ?_
    refine lv_bipush (v := 49) hx hb dX10_add_20 (by decide) ?_
    obtain ⟨g_5, h⟩ := gd_ok h
    refine va_iald (D := G.1) hx hb hK hP 1 0 rfl rfl g_5 dX10_add_22 ?_
    refine lv_icmp_ge (tgt := 67) hx hb dX10_add_23 (by decide) (fun c_6 => ?_) (fun c_6 => ?_)
    · replace h := it_t h c_6
      obtain rfl := sm1 h
      obtain rfl := sm1 hk
      exact K x2 rfl H locs ls hP hD hS (lv_sub hl [0, 1] rfl)
    · replace h := it_f h c_6
      refine lv_aload_n hx hb dX10_add_26 rfl (lv_at hl 0 rfl) ?_
      refine lv_iload_n hx hb dX10_add_27 rfl (lv_at hl 2 rfl) ?_
      refine lv_aload_n hx hb dX10_add_28 rfl (lv_at hl 0 rfl) ?_
      refine va_get (D := G.1) (ci := 9) (v := .ref q_t_order) (C := RX10) (T := TX10) (N := 21) hx hb hts wi_X10_add_X10 hown hK hP 0 rfl rfl 8 (by decide) (hts _ wd_X10_add_3) (fun _ h9 => h9) rfl dX10_add_29 ?_
      refine lv_iload_n hx hb dX10_add_32 rfl (lv_at hl 2 rfl) ?_
      obtain ⟨g_7, h⟩ := gd_ok h
      refine va_iald (D := G.1) hx hb hK hP 3 0 rfl rfl g_7 dX10_add_33 ?_
      obtain ⟨r_8, hf_9, h⟩ := bd_ok h
      refine ck_Vi (rest := []) (wn := [(q_t, .inr (9, [.ref q_t_z, .ref q_t_old, .ref q_t_past, .int t_states, .ref q_t_kept, .int t_isKept, .ref q_t_text, .int t_length, .ref q_t_order, .ref q_t_told, .int t_spot, .int t_toldRows, .ref q_t_rowsTaken, .ref q_t_columnsTaken, .ref q_t_ways, .ref q_t_scaled, .ref q_t_rowFactors, .ref q_t_columnFactors, .ref q_t_rest, .ref q_t_diagonals, .ref q_t_weights])), (q_t_z, .inl (G.2 0, 50, .inl t_z)), (q_t_past, .inl (G.2 0, 200, .inl t_past)), (q_t_order, .inl (G.2 0, 7, .inl t_order))]) ⟨hx, hb, hml, hown, hts⟩ hK hP hD hS hA [0, 1] [2, 3] [2, 3, 0, 1] (c_X10_at l G q_t q_t_z q_t_old q_t_past q_t_kept q_t_text q_t_order q_t_told q_t_rowsTaken q_t_columnsTaken q_t_ways q_t_scaled q_t_rowFactors q_t_columnFactors q_t_rest q_t_diagonals q_t_weights _ t_states t_isKept t_length t_spot t_toldRows t_z x3 (t_order x3.toNatClampNeg) _ hf_9) (cwV 2 hts gX10_add_X10_at rfl rfl rfl (by decide +kernel) ⟨Nat.le_of_ble_eq_true rfl, Nat.le_of_ble_eq_true rfl⟩) rfl rfl rfl rfl rfl rfl (by decide) rfl rfl rfl hl.1 rfl (Nat.le_of_ble_eq_true rfl) dX10_add_34 ⟨Nat.zero_le _, Nat.zero_le _⟩ (fun H locs hP hD hS => ?_)
      refine lv_bipush (v := 20) hx hb dX10_add_37 (by decide) ?_
      refine lv_icmp_ne (tgt := 45) hx hb dX10_add_39 (by decide) (fun c_10 => ?_) (fun c_10 => ?_)
      · replace h := it_f h c_10
        refine lv_iload_n hx hb dX10_add_45 rfl (lv_at hl 1 rfl) ?_
        refine lv_aload_n hx hb dX10_add_46 rfl (lv_at hl 0 rfl) ?_
        refine lv_iload_n hx hb dX10_add_47 rfl (lv_at hl 2 rfl) ?_
        refine lv_aload_n hx hb dX10_add_48 rfl (lv_at hl 0 rfl) ?_
        refine va_get (D := G.1) (ci := 9) (v := .ref q_t_order) (C := RX10) (T := TX10) (N := 21) hx hb hts wi_X10_add_X10 hown hK hP 0 rfl rfl 8 (by decide) (hts _ wd_X10_add_3) (fun _ h9 => h9) rfl dX10_add_49 ?_
        refine lv_iload_n hx hb dX10_add_52 rfl (lv_at hl 2 rfl) ?_
        obtain ⟨g_11, h⟩ := gd_ok h
        refine va_iald (D := G.1) hx hb hK hP 3 0 rfl rfl g_11 dX10_add_53 ?_
        obtain ⟨r_12, hf_13, h⟩ := bd_ok h
        refine ck_Vi (rest := [.int x2]) (wn := [(q_t, .inr (9, [.ref q_t_z, .ref q_t_old, .ref q_t_past, .int t_states, .ref q_t_kept, .int t_isKept, .ref q_t_text, .int t_length, .ref q_t_order, .ref q_t_told, .int t_spot, .int t_toldRows, .ref q_t_rowsTaken, .ref q_t_columnsTaken, .ref q_t_ways, .ref q_t_scaled, .ref q_t_rowFactors, .ref q_t_columnFactors, .ref q_t_rest, .ref q_t_diagonals, .ref q_t_weights])), (q_t_z, .inl (G.2 0, 50, .inl t_z)), (q_t_past, .inl (G.2 0, 200, .inl t_past)), (q_t_order, .inl (G.2 0, 7, .inl t_order))]) ⟨hx, hb, hml, hown, hts⟩ hK hP hD hS hA [0, 1] [2, 3] [2, 3, 0, 1] (c_X10_at l G q_t q_t_z q_t_old q_t_past q_t_kept q_t_text q_t_order q_t_told q_t_rowsTaken q_t_columnsTaken q_t_ways q_t_scaled q_t_rowFactors q_t_columnFactors q_t_rest q_t_diagonals q_t_weights _ t_states t_isKept t_length t_spot t_toldRows t_z x3 (t_order x3.toNatClampNeg) _ hf_13) (cwV 2 hts gX10_add_X10_at rfl rfl rfl (by decide +kernel) ⟨Nat.le_of_ble_eq_true rfl, Nat.le_of_ble_eq_true rfl⟩) rfl rfl rfl rfl rfl rfl (by decide) rfl rfl rfl hl.1 rfl (Nat.le_of_ble_eq_true rfl) dX10_add_54 ⟨Nat.zero_le _, Nat.zero_le _⟩ (fun H locs hP hD hS => ?_)
        refine lv_iconst (v := 1) hx hb dX10_add_57 (by decide) ?_
        refine lv_iadd hx hb dX10_add_58 ?_
        refine lv_iadd hx hb dX10_add_59 ?_
        refine lv_topi (fun x2_14 ex2_14 => ?_)
        replace h := pl_v h ex2_14
        refine lv_istore_n (lv' := [(2, .int x2_14), (0, .ref q_t), (3, .int x3)]) hx hb dX10_add_60 rfl hl (by decide) rfl (fun ls hl => ?_)
        obtain ⟨x3_15, ex3_15, h⟩ := pl_ok h
        refine lv_iinc (v := x3_15) (lv' := [(3, .int x3_15), (2, .int x2_14), (0, .ref q_t)]) hx hb dX10_add_61 hl (k := 2) rfl (by rw [ex3_15]; rfl) (by decide) rfl (fun ls hl => ?_)
        refine lv_goto (tgt := 15) hx hb dX10_add_64 (by decide) ?_
        obtain rfl := sm1 h
        exact ih x2_14 x3_15 hk H locs ls hP hD hS (lv_sub hl [2, 1, 0] rfl)
      · replace h := it_t h c_10
        refine lv_ldc (v := -2000000004) hx hb hown (hts _ wd_X10_add_4) dX10_add_42 ?_
        obtain rfl := sm1 h
        obtain rfl := sm1 hk
        exact KR (-2000000004 : Int32) t_states t_z t_past t_order rfl H locs ls 44 dX10_add_44 hP hD hS
set_option maxHeartbeats 4000000 in
set_option maxRecDepth 100000 in
theorem l_X10_add_2 {p : Program} {l : Launch} {e : Env} {s : State} {m : MethodId} {args : Array Value} {below : List Frame} {meth : Method} {c : Code} {Q : State → Prop} {A0 : Nat → Prop} {H0 : Heap} (C : CallFix p m c cX10_add 4 s args wsX10_add RX10) (G : GT) (hK : gK G s) (hA : ∀ q : Nat, H0.size ≤ q → A0 q) (q_t q_t_z q_t_old q_t_past q_t_kept q_t_text q_t_order q_t_told q_t_rowsTaken q_t_columnsTaken q_t_ways q_t_scaled q_t_rowFactors q_t_columnFactors q_t_rest q_t_diagonals q_t_weights : Nat) (x2 : Int32) (t_states : Int32) (t_isKept : Int32) (t_length : Int32) (t_spot : Int32) (t_toldRows : Int32) (t_past : Nat → Int32) (t_order : Nat → Int32) (E_t_z : Nat → Int32) (K : ∀ (H : Heap) (locs : List Loc) (ls : Array Slot), va_P G.1 vwCl [(q_t, .inr (9, [.ref q_t_z, .ref q_t_old, .ref q_t_past, .int t_states, .ref q_t_kept, .int t_isKept, .ref q_t_text, .int t_length, .ref q_t_order, .ref q_t_told, .int t_spot, .int t_toldRows, .ref q_t_rowsTaken, .ref q_t_columnsTaken, .ref q_t_ways, .ref q_t_scaled, .ref q_t_rowFactors, .ref q_t_columnFactors, .ref q_t_rest, .ref q_t_diagonals, .ref q_t_weights])), (q_t_z, .inl (G.2 0, 50, .inl E_t_z)), (q_t_past, .inl (G.2 0, 200, .inl t_past)), (q_t_order, .inl (G.2 0, 7, .inl t_order))] H → va_D A0 [(q_t, .inr (9, [.ref q_t_z, .ref q_t_old, .ref q_t_past, .int t_states, .ref q_t_kept, .int t_isKept, .ref q_t_text, .int t_length, .ref q_t_order, .ref q_t_told, .int t_spot, .int t_toldRows, .ref q_t_rowsTaken, .ref q_t_columnsTaken, .ref q_t_ways, .ref q_t_scaled, .ref q_t_rowFactors, .ref q_t_columnFactors, .ref q_t_rest, .ref q_t_diagonals, .ref q_t_weights])), (q_t_z, .inl (G.2 0, 50, .inl E_t_z)), (q_t_past, .inl (G.2 0, 200, .inl t_past)), (q_t_order, .inl (G.2 0, 7, .inl t_order))] → va_S A0 H0 H locs → lv_has ls 4 [(2, .int x2)] → W p l e ({ frames := 3, cells := 0, slots := 0, locals := 66 } : Room) s m args below meth c H locs 0 0 Q (F0 m 110 ls [])) : ∀ (n : Nat) (x3 : Int32) (t_z : Nat → Int32), lpN (f_X10_add_L2 t_order) n (x3, t_z) = some E_t_z → ∀ (H : Heap) (locs : List Loc) (ls : Array Slot), va_P G.1 vwCl [(q_t, .inr (9, [.ref q_t_z, .ref q_t_old, .ref q_t_past, .int t_states, .ref q_t_kept, .int t_isKept, .ref q_t_text, .int t_length, .ref q_t_order, .ref q_t_told, .int t_spot, .int t_toldRows, .ref q_t_rowsTaken, .ref q_t_columnsTaken, .ref q_t_ways, .ref q_t_scaled, .ref q_t_rowFactors, .ref q_t_columnFactors, .ref q_t_rest, .ref q_t_diagonals, .ref q_t_weights])), (q_t_z, .inl (G.2 0, 50, .inl t_z)), (q_t_past, .inl (G.2 0, 200, .inl t_past)), (q_t_order, .inl (G.2 0, 7, .inl t_order))] H → va_D A0 [(q_t, .inr (9, [.ref q_t_z, .ref q_t_old, .ref q_t_past, .int t_states, .ref q_t_kept, .int t_isKept, .ref q_t_text, .int t_length, .ref q_t_order, .ref q_t_told, .int t_spot, .int t_toldRows, .ref q_t_rowsTaken, .ref q_t_columnsTaken, .ref q_t_ways, .ref q_t_scaled, .ref q_t_rowFactors, .ref q_t_columnFactors, .ref q_t_rest, .ref q_t_diagonals, .ref q_t_weights])), (q_t_z, .inl (G.2 0, 50, .inl t_z)), (q_t_past, .inl (G.2 0, 200, .inl t_past)), (q_t_order, .inl (G.2 0, 7, .inl t_order))] → va_S A0 H0 H locs → lv_has ls 4 [(0, .ref q_t), (2, .int x2), (3, .int x3)] → W p l e ({ frames := 3, cells := 0, slots := 0, locals := 66 } : Room) s m args below meth c H locs 0 0 Q (F0 m 73 ls []) := by
  obtain ⟨hx, hb, hml, hown, hts⟩ := C
  intro n
  induction n with
  | zero => intro x3 t_z h; exact absurd h (fun h => lp_0 h)
  | succ n ih =>
    intro x3 t_z h H locs ls hP hD hS hl
    obtain ⟨y, h, hk⟩ := lp_s h
    rw [f_X10_add_L2] at h
    refine lv_iload_n hx hb dX10_add_73 rfl (lv_at hl 2 rfl) ?_
    refine lv_aload_n hx hb dX10_add_74 rfl (lv_at hl 0 rfl) ?_
    refine va_get (D := G.1) (ci := 9) (v := .ref q_t_z) (C := RX10) (T := TX10) (N := 21) hx hb hts wi_X10_add_X10 hown hK hP 0 rfl rfl 0 (by decide) (hts _ wd_X10_add_2) (fun _ h9 => h9) rfl dX10_add_75 ?_
    refine lv_bipush (v := 49) hx hb dX10_add_78 (by decide) ?_
    obtain ⟨g_22, h⟩ := gd_ok h
    refine va_iald (D := G.1) hx hb hK hP 1 0 rfl rfl g_22 dX10_add_80 ?_
    refine lv_icmp_ge (tgt := 110) hx hb dX10_add_81 (by decide) (fun c_23 => ?_) (fun c_23 => ?_)
    · replace h := it_t h c_23
      obtain rfl := sm1 h
      obtain rfl := sm1 hk
      exact K H locs ls hP hD hS (lv_sub hl [1] rfl)
    · replace h := it_f h c_23
      refine lv_aload_n hx hb dX10_add_84 rfl (lv_at hl 0 rfl) ?_
      refine va_get (D := G.1) (ci := 9) (v := .ref q_t_z) (C := RX10) (T := TX10) (N := 21) hx hb hts wi_X10_add_X10 hown hK hP 0 rfl rfl 0 (by decide) (hts _ wd_X10_add_2) (fun _ h9 => h9) rfl dX10_add_85 ?_
      refine lv_bipush (v := 7) hx hb dX10_add_88 (by decide) ?_
      refine lv_iload_n hx hb dX10_add_90 rfl (lv_at hl 2 rfl) ?_
      refine lv_imul hx hb dX10_add_91 ?_
      refine lv_aload_n hx hb dX10_add_92 rfl (lv_at hl 0 rfl) ?_
      refine va_get (D := G.1) (ci := 9) (v := .ref q_t_order) (C := RX10) (T := TX10) (N := 21) hx hb hts wi_X10_add_X10 hown hK hP 0 rfl rfl 8 (by decide) (hts _ wd_X10_add_3) (fun _ h9 => h9) rfl dX10_add_93 ?_
      refine lv_iload_n hx hb dX10_add_96 rfl (lv_at hl 2 rfl) ?_
      obtain ⟨g_24, h⟩ := gd_ok h
      refine va_iald (D := G.1) hx hb hK hP 3 0 rfl rfl g_24 dX10_add_97 ?_
      refine lv_iadd hx hb dX10_add_98 ?_
      refine lv_topi (fun v_25 ev_25 => ?_)
      replace h := pl_v h ev_25
      refine lv_dup2_11 hx hb dX10_add_99 rfl rfl ?_
      obtain ⟨g_26, h⟩ := gd_ok h
      refine va_iald (D := G.1) hx hb hK hP 1 0 rfl rfl g_26 dX10_add_100 ?_
      refine lv_iconst (v := 1) hx hb dX10_add_101 (by decide) ?_
      refine lv_iadd hx hb dX10_add_102 ?_
      obtain ⟨g_27, h⟩ := gd_ok h
      obtain ⟨t_z_28, et_z_28, h⟩ := pl_ok h
      refine st_i (D := G.1) (wn := [(q_t, .inr (9, [.ref q_t_z, .ref q_t_old, .ref q_t_past, .int t_states, .ref q_t_kept, .int t_isKept, .ref q_t_text, .int t_length, .ref q_t_order, .ref q_t_told, .int t_spot, .int t_toldRows, .ref q_t_rowsTaken, .ref q_t_columnsTaken, .ref q_t_ways, .ref q_t_scaled, .ref q_t_rowFactors, .ref q_t_columnFactors, .ref q_t_rest, .ref q_t_diagonals, .ref q_t_weights])), (q_t_z, .inl (G.2 0, 50, .inl t_z_28)), (q_t_past, .inl (G.2 0, 200, .inl t_past)), (q_t_order, .inl (G.2 0, 7, .inl t_order))]) hx hb hK hP hD hS 1 0 rfl rfl g_27 dX10_add_103 et_z_28 rfl (fun H locs hP hD hS => ?_)
      obtain ⟨x3_29, ex3_29, h⟩ := pl_ok h
      refine lv_iinc (v := x3_29) (lv' := [(3, .int x3_29), (0, .ref q_t), (2, .int x2)]) hx hb dX10_add_104 hl (k := 2) rfl (by rw [ex3_29]; rfl) (by decide) rfl (fun ls hl => ?_)
      refine lv_goto (tgt := 73) hx hb dX10_add_107 (by decide) ?_
      obtain rfl := sm1 h
      exact ih x3_29 t_z_28 hk H locs ls hP hD hS (lv_sub hl [1, 2, 0] rfl)
set_option maxHeartbeats 4000000 in
set_option maxRecDepth 100000 in
theorem k_X10_add {p : Program} {l : Launch} {e : Env} {s : State} {m : MethodId} {args : Array Value} {below : List Frame} {meth : Method} {c : Code} {Q : State → Prop} {A0 : Nat → Prop} {H0 : Heap} (C : CallFix p m c cX10_add 4 s args wsX10_add RX10) (G : GT) (hK : gK G s) (hA : ∀ q : Nat, H0.size ≤ q → A0 q) (q_t q_t_z q_t_old q_t_past q_t_kept q_t_text q_t_order q_t_told q_t_rowsTaken q_t_columnsTaken q_t_ways q_t_scaled q_t_rowFactors q_t_columnFactors q_t_rest q_t_diagonals q_t_weights : Nat) (t_states : Int32) (t_isKept : Int32) (t_length : Int32) (t_spot : Int32) (t_toldRows : Int32) (t_z : Nat → Int32) (t_past : Nat → Int32) (t_order : Nat → Int32) (a1 : Int32) (r : Int32) (o_t_states : Int32) (o_t_z : Nat → Int32) (o_t_past : Nat → Int32) (o_t_order : Nat → Int32) (h : f_X10_add t_states t_z t_past t_order a1 = some (r, o_t_states, o_t_z, o_t_past, o_t_order)) (KR : ∀ (H : Heap) (locs : List Loc) (ls : Array Slot) (pc : Nat), decode cX10_add pc = .ok (.ireturn, 1) → va_P G.1 vwCl [(q_t, .inr (9, [.ref q_t_z, .ref q_t_old, .ref q_t_past, .int o_t_states, .ref q_t_kept, .int t_isKept, .ref q_t_text, .int t_length, .ref q_t_order, .ref q_t_told, .int t_spot, .int t_toldRows, .ref q_t_rowsTaken, .ref q_t_columnsTaken, .ref q_t_ways, .ref q_t_scaled, .ref q_t_rowFactors, .ref q_t_columnFactors, .ref q_t_rest, .ref q_t_diagonals, .ref q_t_weights])), (q_t_z, .inl (G.2 0, 50, .inl o_t_z)), (q_t_past, .inl (G.2 0, 200, .inl o_t_past)), (q_t_order, .inl (G.2 0, 7, .inl o_t_order))] H → va_D A0 [(q_t, .inr (9, [.ref q_t_z, .ref q_t_old, .ref q_t_past, .int o_t_states, .ref q_t_kept, .int t_isKept, .ref q_t_text, .int t_length, .ref q_t_order, .ref q_t_told, .int t_spot, .int t_toldRows, .ref q_t_rowsTaken, .ref q_t_columnsTaken, .ref q_t_ways, .ref q_t_scaled, .ref q_t_rowFactors, .ref q_t_columnFactors, .ref q_t_rest, .ref q_t_diagonals, .ref q_t_weights])), (q_t_z, .inl (G.2 0, 50, .inl o_t_z)), (q_t_past, .inl (G.2 0, 200, .inl o_t_past)), (q_t_order, .inl (G.2 0, 7, .inl o_t_order))] → va_S A0 H0 H locs → W p l e ({ frames := 3, cells := 0, slots := 0, locals := 66 } : Room) s m args below meth c H locs 0 0 Q (F0 m pc ls [.int r])) : ∀ (H : Heap) (locs : List Loc) (ls : Array Slot), va_P G.1 vwCl [(q_t, .inr (9, [.ref q_t_z, .ref q_t_old, .ref q_t_past, .int t_states, .ref q_t_kept, .int t_isKept, .ref q_t_text, .int t_length, .ref q_t_order, .ref q_t_told, .int t_spot, .int t_toldRows, .ref q_t_rowsTaken, .ref q_t_columnsTaken, .ref q_t_ways, .ref q_t_scaled, .ref q_t_rowFactors, .ref q_t_columnFactors, .ref q_t_rest, .ref q_t_diagonals, .ref q_t_weights])), (q_t_z, .inl (G.2 0, 50, .inl t_z)), (q_t_past, .inl (G.2 0, 200, .inl t_past)), (q_t_order, .inl (G.2 0, 7, .inl t_order))] H → va_D A0 [(q_t, .inr (9, [.ref q_t_z, .ref q_t_old, .ref q_t_past, .int t_states, .ref q_t_kept, .int t_isKept, .ref q_t_text, .int t_length, .ref q_t_order, .ref q_t_told, .int t_spot, .int t_toldRows, .ref q_t_rowsTaken, .ref q_t_columnsTaken, .ref q_t_ways, .ref q_t_scaled, .ref q_t_rowFactors, .ref q_t_columnFactors, .ref q_t_rest, .ref q_t_diagonals, .ref q_t_weights])), (q_t_z, .inl (G.2 0, 50, .inl t_z)), (q_t_past, .inl (G.2 0, 200, .inl t_past)), (q_t_order, .inl (G.2 0, 7, .inl t_order))] → va_S A0 H0 H locs → lv_has ls 4 [(0, .ref q_t), (1, .int a1)] → W p l e ({ frames := 3, cells := 0, slots := 0, locals := 66 } : Room) s m args below meth c H locs 0 0 Q (F0 m 0 ls []) := by
  obtain ⟨hx, hb, hml, hown, hts⟩ := C
  intro H locs ls hP hD hS hl
  rw [f_X10_add] at h
  refine lv_aload_n hx hb dX10_add_0 rfl (lv_at hl 0 rfl) ?_
  refine lv_iload_n hx hb dX10_add_1 rfl (lv_at hl 1 rfl) ?_
  obtain ⟨⟨r_2, t_order_1⟩, hf_3, h⟩ := bd_ok h
  refine ck_Vi (rest := []) (wn := [(q_t, .inr (9, [.ref q_t_z, .ref q_t_old, .ref q_t_past, .int t_states, .ref q_t_kept, .int t_isKept, .ref q_t_text, .int t_length, .ref q_t_order, .ref q_t_told, .int t_spot, .int t_toldRows, .ref q_t_rowsTaken, .ref q_t_columnsTaken, .ref q_t_ways, .ref q_t_scaled, .ref q_t_rowFactors, .ref q_t_columnFactors, .ref q_t_rest, .ref q_t_diagonals, .ref q_t_weights])), (q_t_z, .inl (G.2 0, 50, .inl t_z)), (q_t_past, .inl (G.2 0, 200, .inl t_past)), (q_t_order, .inl (G.2 0, 7, .inl t_order_1))]) ⟨hx, hb, hml, hown, hts⟩ hK hP hD hS hA [0, 1, 3] [2] [1, 2, 0, 3] (c_X10_isDiagonal l G q_t q_t_z q_t_old q_t_past q_t_kept q_t_text q_t_order q_t_told q_t_rowsTaken q_t_columnsTaken q_t_ways q_t_scaled q_t_rowFactors q_t_columnFactors q_t_rest q_t_diagonals q_t_weights _ t_states t_isKept t_length t_spot t_toldRows t_z t_order a1 _ _ hf_3) (cwV 1 hts gX10_add_X10_isDiagonal rfl rfl rfl (by decide +kernel) ⟨Nat.le_of_ble_eq_true rfl, Nat.le_of_ble_eq_true rfl⟩) rfl rfl rfl rfl rfl rfl (by decide) rfl rfl rfl hl.1 rfl (Nat.le_of_ble_eq_true rfl) dX10_add_2 ⟨Nat.zero_le _, Nat.zero_le _⟩ (fun H locs hP hD hS => ?_)
  refine lv_if_ne (tgt := 11) hx hb dX10_add_5 (by decide) (fun c_4 => ?_) (fun c_4 => ?_)
  · replace h := it_f h c_4
    refine lv_iconst (v := 0) hx hb dX10_add_11 (by decide) ?_
    refine lv_istore_n (lv' := [(2, .int (0 : Int32)), (0, .ref q_t), (1, .int a1)]) hx hb dX10_add_12 rfl hl (by decide) rfl (fun ls hl => ?_)
    refine lv_iconst (v := 0) hx hb dX10_add_13 (by decide) ?_
    refine lv_istore_n (lv' := [(3, .int (0 : Int32)), (2, .int (0 : Int32)), (0, .ref q_t), (1, .int a1)]) hx hb dX10_add_14 rfl hl (by decide) rfl (fun ls hl => ?_)
    obtain ⟨z_17, hz_18, h⟩ := bd_ok h
    refine l_X10_add_1 ⟨hx, hb, hml, hown, hts⟩ G hK hA q_t q_t_z q_t_old q_t_past q_t_kept q_t_text q_t_order q_t_told q_t_rowsTaken q_t_columnsTaken q_t_ways q_t_scaled q_t_rowFactors q_t_columnFactors q_t_rest q_t_diagonals q_t_weights t_states t_isKept t_length t_spot t_toldRows t_z t_past t_order_1 z_17 ?_ ?_ FU (0 : Int32) (0 : Int32) hz_18 H locs ls hP hD hS (lv_sub hl [2, 1, 0] rfl)
    · intro x2_16 hz H locs ls hP hD hS hl
      subst hz
      refine lv_aload_n hx hb dX10_add_67 rfl (lv_at hl 0 rfl) ?_
      obtain ⟨⟨t_states_19, t_past_20⟩, hf_21, h⟩ := bd_ok h
      refine ck_Vv (rest := []) (wn := [(q_t, .inr (9, [.ref q_t_z, .ref q_t_old, .ref q_t_past, .int t_states_19, .ref q_t_kept, .int t_isKept, .ref q_t_text, .int t_length, .ref q_t_order, .ref q_t_told, .int t_spot, .int t_toldRows, .ref q_t_rowsTaken, .ref q_t_columnsTaken, .ref q_t_ways, .ref q_t_scaled, .ref q_t_rowFactors, .ref q_t_columnFactors, .ref q_t_rest, .ref q_t_diagonals, .ref q_t_weights])), (q_t_z, .inl (G.2 0, 50, .inl t_z)), (q_t_past, .inl (G.2 0, 200, .inl t_past_20)), (q_t_order, .inl (G.2 0, 7, .inl t_order_1))]) ⟨hx, hb, hml, hown, hts⟩ hK hP hD hS hA [0, 1, 2] [3] [1, 2, 3, 0] (c_X10_record l G q_t q_t_z q_t_old q_t_past q_t_kept q_t_text q_t_order q_t_told q_t_rowsTaken q_t_columnsTaken q_t_ways q_t_scaled q_t_rowFactors q_t_columnFactors q_t_rest q_t_diagonals q_t_weights _ t_states t_isKept t_length t_spot t_toldRows t_z t_past _ _ hf_21) (cwV 0 hts gX10_add_X10_record rfl rfl rfl (by decide +kernel) ⟨Nat.le_of_ble_eq_true rfl, Nat.le_of_ble_eq_true rfl⟩) rfl rfl rfl rfl rfl rfl (by decide) rfl rfl rfl hl.1 rfl (Nat.le_of_ble_eq_true rfl) dX10_add_68 ⟨Nat.zero_le _, Nat.zero_le _⟩ (fun H locs hP hD hS => ?_)
      refine lv_iconst (v := 0) hx hb dX10_add_71 (by decide) ?_
      refine lv_istore_n (lv' := [(3, .int (0 : Int32)), (0, .ref q_t), (2, .int x2_16)]) hx hb dX10_add_72 rfl hl (by decide) rfl (fun ls hl => ?_)
      obtain ⟨t_z_30, hz_32, h⟩ := bd_ok h
      refine l_X10_add_2 ⟨hx, hb, hml, hown, hts⟩ G hK hA q_t q_t_z q_t_old q_t_past q_t_kept q_t_text q_t_order q_t_told q_t_rowsTaken q_t_columnsTaken q_t_ways q_t_scaled q_t_rowFactors q_t_columnFactors q_t_rest q_t_diagonals q_t_weights x2_16 t_states_19 t_isKept t_length t_spot t_toldRows t_past_20 t_order_1 t_z_30 ?_ FU (0 : Int32) t_z hz_32 H locs ls hP hD hS (lv_sub hl [1, 2, 0] rfl)
      intro H locs ls hP hD hS hl
      refine lv_iload_n hx hb dX10_add_110 rfl (lv_at hl 0 rfl) ?_
      obtain ⟨rfl, rfl, rfl, rfl, rfl⟩ := sm5 h
      exact KR H locs ls 111 dX10_add_111 hP hD hS
    · intro r_33 t_states_34 t_z_35 t_past_36 t_order_37 hz H locs ls pc hd hP hD hS
      subst hz
      obtain ⟨rfl, rfl, rfl, rfl, rfl⟩ := sm5 h
      exact KR H locs ls pc hd hP hD hS
  · replace h := it_t h c_4
    refine lv_ldc (v := -2000000001) hx hb hown (hts _ wd_X10_add_1) dX10_add_8 ?_
    obtain ⟨rfl, rfl, rfl, rfl, rfl⟩ := sm5 h
    exact KR H locs ls 10 dX10_add_10 hP hD hS
set_option maxHeartbeats 4000000 in
set_option maxRecDepth 100000 in
theorem c_X10_add (l : Launch) (G : GT) (q_t q_t_z q_t_old q_t_past q_t_kept q_t_text q_t_order q_t_told q_t_rowsTaken q_t_columnsTaken q_t_ways q_t_scaled q_t_rowFactors q_t_columnFactors q_t_rest q_t_diagonals q_t_weights : Nat) (sz : Nat) (t_states : Int32) (t_isKept : Int32) (t_length : Int32) (t_spot : Int32) (t_toldRows : Int32) (t_z : Nat → Int32) (t_past : Nat → Int32) (t_order : Nat → Int32) (a1 : Int32) (r : Int32) (o_t_states : Int32) (o_t_z : Nat → Int32) (o_t_past : Nat → Int32) (o_t_order : Nat → Int32) (h : f_X10_add t_states t_z t_past t_order a1 = some (r, o_t_states, o_t_z, o_t_past, o_t_order)) : Met l yX10_add wsX10_add ({ frames := 3, cells := 0, slots := 0, locals := 66 } : Room) (va_Pc [.ref q_t, .int a1] (pcW G [(q_t, .inr (9, [.ref q_t_z, .ref q_t_old, .ref q_t_past, .int t_states, .ref q_t_kept, .int t_isKept, .ref q_t_text, .int t_length, .ref q_t_order, .ref q_t_told, .int t_spot, .int t_toldRows, .ref q_t_rowsTaken, .ref q_t_columnsTaken, .ref q_t_ways, .ref q_t_scaled, .ref q_t_rowFactors, .ref q_t_columnFactors, .ref q_t_rest, .ref q_t_diagonals, .ref q_t_weights])), (q_t_z, .inl (G.2 0, 50, .inl t_z)), (q_t_past, .inl (G.2 0, 200, .inl t_past)), (q_t_order, .inl (G.2 0, 7, .inl t_order))] sz)) (va_Qi (fun r9 (_ : Unit) => r9 = r) (fun _ t => atW G (va_A [(q_t, .inr (9, [.ref q_t_z, .ref q_t_old, .ref q_t_past, .int t_states, .ref q_t_kept, .int t_isKept, .ref q_t_text, .int t_length, .ref q_t_order, .ref q_t_told, .int t_spot, .int t_toldRows, .ref q_t_rowsTaken, .ref q_t_columnsTaken, .ref q_t_ways, .ref q_t_scaled, .ref q_t_rowFactors, .ref q_t_columnFactors, .ref q_t_rest, .ref q_t_diagonals, .ref q_t_weights])), (q_t_z, .inl (G.2 0, 50, .inl t_z)), (q_t_past, .inl (G.2 0, 200, .inl t_past)), (q_t_order, .inl (G.2 0, 7, .inl t_order))] sz) [(q_t, .inr (9, [.ref q_t_z, .ref q_t_old, .ref q_t_past, .int o_t_states, .ref q_t_kept, .int t_isKept, .ref q_t_text, .int t_length, .ref q_t_order, .ref q_t_told, .int t_spot, .int t_toldRows, .ref q_t_rowsTaken, .ref q_t_columnsTaken, .ref q_t_ways, .ref q_t_scaled, .ref q_t_rowFactors, .ref q_t_columnFactors, .ref q_t_rest, .ref q_t_diagonals, .ref q_t_weights])), (q_t_z, .inl (G.2 0, 50, .inl o_t_z)), (q_t_past, .inl (G.2 0, 200, .inl o_t_past)), (q_t_order, .inl (G.2 0, 7, .inl o_t_order))] t) (va_A [(q_t, .inr (9, [.ref q_t_z, .ref q_t_old, .ref q_t_past, .int t_states, .ref q_t_kept, .int t_isKept, .ref q_t_text, .int t_length, .ref q_t_order, .ref q_t_told, .int t_spot, .int t_toldRows, .ref q_t_rowsTaken, .ref q_t_columnsTaken, .ref q_t_ways, .ref q_t_scaled, .ref q_t_rowFactors, .ref q_t_columnFactors, .ref q_t_rest, .ref q_t_diagonals, .ref q_t_weights])), (q_t_z, .inl (G.2 0, 50, .inl t_z)), (q_t_past, .inl (G.2 0, 200, .inl t_past)), (q_t_order, .inl (G.2 0, 7, .inl t_order))] sz)) 0 0 (va_A [(q_t, .inr (9, [.ref q_t_z, .ref q_t_old, .ref q_t_past, .int t_states, .ref q_t_kept, .int t_isKept, .ref q_t_text, .int t_length, .ref q_t_order, .ref q_t_told, .int t_spot, .int t_toldRows, .ref q_t_rowsTaken, .ref q_t_columnsTaken, .ref q_t_ways, .ref q_t_scaled, .ref q_t_rowFactors, .ref q_t_columnFactors, .ref q_t_rest, .ref q_t_diagonals, .ref q_t_weights])), (q_t_z, .inl (G.2 0, 50, .inl t_z)), (q_t_past, .inl (G.2 0, 200, .inl t_past)), (q_t_order, .inl (G.2 0, 7, .inl t_order))] sz) := by
  refine Met.ofW (cc := cX10_add) (maxL := 4) (ret := (some .int)) (by decide) rfl ?_
  intro p e s m args below meth c s₁ B hml hv
  obtain ⟨rfl, hsz, hP, hK, hD0⟩ := hv
  subst hsz
  have hD := hD0.self (sz := s.heap.size)
  generalize hAe : va_A [(q_t, .inr (9, [.ref q_t_z, .ref q_t_old, .ref q_t_past, .int t_states, .ref q_t_kept, .int t_isKept, .ref q_t_text, .int t_length, .ref q_t_order, .ref q_t_told, .int t_spot, .int t_toldRows, .ref q_t_rowsTaken, .ref q_t_columnsTaken, .ref q_t_ways, .ref q_t_scaled, .ref q_t_rowFactors, .ref q_t_columnFactors, .ref q_t_rest, .ref q_t_diagonals, .ref q_t_weights])), (q_t_z, .inl (G.2 0, 50, .inl t_z)), (q_t_past, .inl (G.2 0, 200, .inl t_past)), (q_t_order, .inl (G.2 0, 7, .inl t_order))] s.heap.size = A at hD ⊢
  have hA : ∀ q : Nat, s.heap.size ≤ q → A q := fun q h => by rw [← hAe]; exact Or.inr h
  have hl := lv_entry ([.ref q_t, .int a1]) (n := 4) (Nat.le_of_ble_eq_true rfl)
  rw [lg_entry_eq]
  refine k_X10_add ⟨B.exec, B.bytes, hml, findClass_of_methodNamed B.named, atoms_spec (ws := wsX10_add) B.pre⟩ G hK hA q_t q_t_z q_t_old q_t_past q_t_kept q_t_text q_t_order q_t_told q_t_rowsTaken q_t_columnsTaken q_t_ways q_t_scaled q_t_rowFactors q_t_columnFactors q_t_rest q_t_diagonals q_t_weights _ _ _ _ _ _ _ _ _ _ _ _ _ _ h ?_ _ _ _ hP hD va_S.rf hl
  intro H locs ls pc hd hP hD hS
  exact W.iret B.exec B.bytes B.returns (fun t ht hW => ⟨⟨r, (), rfl, rfl, by rw [ht]; exact hP, hD⟩, hS.F ht⟩) hS.2.2 hd B.notSynchronized
set_option maxRecDepth 20000 in
theorem wd_X10_type_1 : Cond.fieldLink RX10 112 "PermanentDeskModel" "length" "I" ∈ wsX10_type := List.mem_of_getElem? (i := 1) (by decide +kernel)
set_option maxRecDepth 20000 in
theorem wi_X10_type_X10 : ∀ w ∈ u_ws RX10 TX10 21, w ∈ wsX10_type := by decide +kernel
set_option maxRecDepth 20000 in
theorem wd_X10_type_3 : Cond.fieldLink RX10 22 "PermanentDeskModel" "text" "[I" ∈ wsX10_type := List.mem_of_getElem? (i := 3) (by decide +kernel)
set_option maxRecDepth 20000 in
theorem wd_X10_type_2 : Cond.constant RX10 115 (-2000000003) ∈ wsX10_type := List.mem_of_getElem? (i := 2) (by decide +kernel)
def f_X10_type (t_length : Int32) (t_text : Nat → Int32) (a1 : Int32) : Option (Int32 × Int32 × (Nat → Int32)) :=
  if t_length = (100 : Int32) then
    some ((-2000000003 : Int32), t_length, t_text)
  else
    gd (okI t_length 100) (
    pl ((upd t_text t_length.toNatClampNeg a1) : Nat → Int32) (fun t_text_3 =>
    pl ((t_length + (1 : Int32)) : Int32) (fun t_length_4 =>
    some (t_length_4, t_length_4, t_text_3))))
set_option maxHeartbeats 4000000 in
set_option maxRecDepth 100000 in
theorem k_X10_type {p : Program} {l : Launch} {e : Env} {s : State} {m : MethodId} {args : Array Value} {below : List Frame} {meth : Method} {c : Code} {Q : State → Prop} {A0 : Nat → Prop} {H0 : Heap} (C : CallFix p m c cX10_type 2 s args wsX10_type RX10) (G : GT) (hK : gK G s) (hA : ∀ q : Nat, H0.size ≤ q → A0 q) (q_t q_t_z q_t_old q_t_past q_t_kept q_t_text q_t_order q_t_told q_t_rowsTaken q_t_columnsTaken q_t_ways q_t_scaled q_t_rowFactors q_t_columnFactors q_t_rest q_t_diagonals q_t_weights : Nat) (t_states : Int32) (t_isKept : Int32) (t_length : Int32) (t_spot : Int32) (t_toldRows : Int32) (t_text : Nat → Int32) (a1 : Int32) (r : Int32) (o_t_length : Int32) (o_t_text : Nat → Int32) (h : f_X10_type t_length t_text a1 = some (r, o_t_length, o_t_text)) (KR : ∀ (H : Heap) (locs : List Loc) (ls : Array Slot) (pc : Nat), decode cX10_type pc = .ok (.ireturn, 1) → va_P G.1 vwCl [(q_t, .inr (9, [.ref q_t_z, .ref q_t_old, .ref q_t_past, .int t_states, .ref q_t_kept, .int t_isKept, .ref q_t_text, .int o_t_length, .ref q_t_order, .ref q_t_told, .int t_spot, .int t_toldRows, .ref q_t_rowsTaken, .ref q_t_columnsTaken, .ref q_t_ways, .ref q_t_scaled, .ref q_t_rowFactors, .ref q_t_columnFactors, .ref q_t_rest, .ref q_t_diagonals, .ref q_t_weights])), (q_t_text, .inl (G.2 0, 100, .inl o_t_text))] H → va_D A0 [(q_t, .inr (9, [.ref q_t_z, .ref q_t_old, .ref q_t_past, .int t_states, .ref q_t_kept, .int t_isKept, .ref q_t_text, .int o_t_length, .ref q_t_order, .ref q_t_told, .int t_spot, .int t_toldRows, .ref q_t_rowsTaken, .ref q_t_columnsTaken, .ref q_t_ways, .ref q_t_scaled, .ref q_t_rowFactors, .ref q_t_columnFactors, .ref q_t_rest, .ref q_t_diagonals, .ref q_t_weights])), (q_t_text, .inl (G.2 0, 100, .inl o_t_text))] → va_S A0 H0 H locs → W p l e ({ frames := 0, cells := 0, slots := 0, locals := 0 } : Room) s m args below meth c H locs 0 0 Q (F0 m pc ls [.int r])) : ∀ (H : Heap) (locs : List Loc) (ls : Array Slot), va_P G.1 vwCl [(q_t, .inr (9, [.ref q_t_z, .ref q_t_old, .ref q_t_past, .int t_states, .ref q_t_kept, .int t_isKept, .ref q_t_text, .int t_length, .ref q_t_order, .ref q_t_told, .int t_spot, .int t_toldRows, .ref q_t_rowsTaken, .ref q_t_columnsTaken, .ref q_t_ways, .ref q_t_scaled, .ref q_t_rowFactors, .ref q_t_columnFactors, .ref q_t_rest, .ref q_t_diagonals, .ref q_t_weights])), (q_t_text, .inl (G.2 0, 100, .inl t_text))] H → va_D A0 [(q_t, .inr (9, [.ref q_t_z, .ref q_t_old, .ref q_t_past, .int t_states, .ref q_t_kept, .int t_isKept, .ref q_t_text, .int t_length, .ref q_t_order, .ref q_t_told, .int t_spot, .int t_toldRows, .ref q_t_rowsTaken, .ref q_t_columnsTaken, .ref q_t_ways, .ref q_t_scaled, .ref q_t_rowFactors, .ref q_t_columnFactors, .ref q_t_rest, .ref q_t_diagonals, .ref q_t_weights])), (q_t_text, .inl (G.2 0, 100, .inl t_text))] → va_S A0 H0 H locs → lv_has ls 2 [(0, .ref q_t), (1, .int a1)] → W p l e ({ frames := 0, cells := 0, slots := 0, locals := 0 } : Room) s m args below meth c H locs 0 0 Q (F0 m 0 ls []) := by
  obtain ⟨hx, hb, hml, hown, hts⟩ := C
  intro H locs ls hP hD hS hl
  rw [f_X10_type] at h
  refine lv_aload_n hx hb dX10_type_0 rfl (lv_at hl 0 rfl) ?_
  refine va_get (D := G.1) (ci := 9) (v := .int t_length) (C := RX10) (T := TX10) (N := 21) hx hb hts wi_X10_type_X10 hown hK hP 0 rfl rfl 7 (by decide) (hts _ wd_X10_type_1) (fun _ h9 => h9) rfl dX10_type_1 ?_
  refine lv_bipush (v := 100) hx hb dX10_type_4 (by decide) ?_
  refine lv_icmp_ne (tgt := 12) hx hb dX10_type_6 (by decide) (fun c_1 => ?_) (fun c_1 => ?_)
  · replace h := it_f h c_1
    refine lv_aload_n hx hb dX10_type_12 rfl (lv_at hl 0 rfl) ?_
    refine va_get (D := G.1) (ci := 9) (v := .ref q_t_text) (C := RX10) (T := TX10) (N := 21) hx hb hts wi_X10_type_X10 hown hK hP 0 rfl rfl 6 (by decide) (hts _ wd_X10_type_3) (fun _ h9 => h9) rfl dX10_type_13 ?_
    refine lv_aload_n hx hb dX10_type_16 rfl (lv_at hl 0 rfl) ?_
    refine va_get (D := G.1) (ci := 9) (v := .int t_length) (C := RX10) (T := TX10) (N := 21) hx hb hts wi_X10_type_X10 hown hK hP 0 rfl rfl 7 (by decide) (hts _ wd_X10_type_1) (fun _ h9 => h9) rfl dX10_type_17 ?_
    refine lv_iload_n hx hb dX10_type_20 rfl (lv_at hl 1 rfl) ?_
    obtain ⟨g_2, h⟩ := gd_ok h
    obtain ⟨t_text_3, et_text_3, h⟩ := pl_ok h
    refine st_i (D := G.1) (wn := [(q_t, .inr (9, [.ref q_t_z, .ref q_t_old, .ref q_t_past, .int t_states, .ref q_t_kept, .int t_isKept, .ref q_t_text, .int t_length, .ref q_t_order, .ref q_t_told, .int t_spot, .int t_toldRows, .ref q_t_rowsTaken, .ref q_t_columnsTaken, .ref q_t_ways, .ref q_t_scaled, .ref q_t_rowFactors, .ref q_t_columnFactors, .ref q_t_rest, .ref q_t_diagonals, .ref q_t_weights])), (q_t_text, .inl (G.2 0, 100, .inl t_text_3))]) hx hb hK hP hD hS 1 0 rfl rfl g_2 dX10_type_21 et_text_3 rfl (fun H locs hP hD hS => ?_)
    refine lv_aload_n hx hb dX10_type_22 rfl (lv_at hl 0 rfl) ?_
    refine lv_dup hx hb dX10_type_23 rfl ?_
    refine va_get (D := G.1) (ci := 9) (v := .int t_length) (C := RX10) (T := TX10) (N := 21) hx hb hts wi_X10_type_X10 hown hK hP 0 rfl rfl 7 (by decide) (hts _ wd_X10_type_1) (fun _ h9 => h9) rfl dX10_type_24 ?_
    refine lv_iconst (v := 1) hx hb dX10_type_27 (by decide) ?_
    refine lv_iadd hx hb dX10_type_28 ?_
    refine lv_topi (fun t_length_4 et_length_4 => ?_)
    replace h := pl_v h et_length_4
    refine st_put (D := G.1) (ci := 9) (v := .int t_length_4) (ty := .int) (C := RX10) (T := TX10) (N := 21) (wn := [(q_t, .inr (9, [.ref q_t_z, .ref q_t_old, .ref q_t_past, .int t_states, .ref q_t_kept, .int t_isKept, .ref q_t_text, .int t_length_4, .ref q_t_order, .ref q_t_told, .int t_spot, .int t_toldRows, .ref q_t_rowsTaken, .ref q_t_columnsTaken, .ref q_t_ways, .ref q_t_scaled, .ref q_t_rowFactors, .ref q_t_columnFactors, .ref q_t_rest, .ref q_t_diagonals, .ref q_t_weights])), (q_t_text, .inl (G.2 0, 100, .inl t_text_3))]) hx hb hts wi_X10_type_X10 tyX10 tyX10_ok nmX10 hown hK hP hD hS 0 rfl rfl 7 (by decide) (hts _ wd_X10_type_1) (fun _ h9 => h9) rfl (by decide +kernel) rfl rfl (Nat.le_of_ble_eq_true rfl) dX10_type_29 rfl (fun H locs hP hD hS => ?_)
    refine lv_aload_n hx hb dX10_type_32 rfl (lv_at hl 0 rfl) ?_
    refine va_get (D := G.1) (ci := 9) (v := .int t_length_4) (C := RX10) (T := TX10) (N := 21) hx hb hts wi_X10_type_X10 hown hK hP 0 rfl rfl 7 (by decide) (hts _ wd_X10_type_1) (fun _ h9 => h9) rfl dX10_type_33 ?_
    obtain ⟨rfl, rfl, rfl⟩ := sm3 h
    exact KR H locs ls 36 dX10_type_36 hP hD hS
  · replace h := it_t h c_1
    refine lv_ldc (v := -2000000003) hx hb hown (hts _ wd_X10_type_2) dX10_type_9 ?_
    obtain ⟨rfl, rfl, rfl⟩ := sm3 h
    exact KR H locs ls 11 dX10_type_11 hP hD hS
set_option maxHeartbeats 4000000 in
set_option maxRecDepth 100000 in
theorem c_X10_type (l : Launch) (G : GT) (q_t q_t_z q_t_old q_t_past q_t_kept q_t_text q_t_order q_t_told q_t_rowsTaken q_t_columnsTaken q_t_ways q_t_scaled q_t_rowFactors q_t_columnFactors q_t_rest q_t_diagonals q_t_weights : Nat) (sz : Nat) (t_states : Int32) (t_isKept : Int32) (t_length : Int32) (t_spot : Int32) (t_toldRows : Int32) (t_text : Nat → Int32) (a1 : Int32) (r : Int32) (o_t_length : Int32) (o_t_text : Nat → Int32) (h : f_X10_type t_length t_text a1 = some (r, o_t_length, o_t_text)) : Met l yX10_type wsX10_type ({ frames := 0, cells := 0, slots := 0, locals := 0 } : Room) (va_Pc [.ref q_t, .int a1] (pcW G [(q_t, .inr (9, [.ref q_t_z, .ref q_t_old, .ref q_t_past, .int t_states, .ref q_t_kept, .int t_isKept, .ref q_t_text, .int t_length, .ref q_t_order, .ref q_t_told, .int t_spot, .int t_toldRows, .ref q_t_rowsTaken, .ref q_t_columnsTaken, .ref q_t_ways, .ref q_t_scaled, .ref q_t_rowFactors, .ref q_t_columnFactors, .ref q_t_rest, .ref q_t_diagonals, .ref q_t_weights])), (q_t_text, .inl (G.2 0, 100, .inl t_text))] sz)) (va_Qi (fun r9 (_ : Unit) => r9 = r) (fun _ t => atW G (va_A [(q_t, .inr (9, [.ref q_t_z, .ref q_t_old, .ref q_t_past, .int t_states, .ref q_t_kept, .int t_isKept, .ref q_t_text, .int t_length, .ref q_t_order, .ref q_t_told, .int t_spot, .int t_toldRows, .ref q_t_rowsTaken, .ref q_t_columnsTaken, .ref q_t_ways, .ref q_t_scaled, .ref q_t_rowFactors, .ref q_t_columnFactors, .ref q_t_rest, .ref q_t_diagonals, .ref q_t_weights])), (q_t_text, .inl (G.2 0, 100, .inl t_text))] sz) [(q_t, .inr (9, [.ref q_t_z, .ref q_t_old, .ref q_t_past, .int t_states, .ref q_t_kept, .int t_isKept, .ref q_t_text, .int o_t_length, .ref q_t_order, .ref q_t_told, .int t_spot, .int t_toldRows, .ref q_t_rowsTaken, .ref q_t_columnsTaken, .ref q_t_ways, .ref q_t_scaled, .ref q_t_rowFactors, .ref q_t_columnFactors, .ref q_t_rest, .ref q_t_diagonals, .ref q_t_weights])), (q_t_text, .inl (G.2 0, 100, .inl o_t_text))] t) (va_A [(q_t, .inr (9, [.ref q_t_z, .ref q_t_old, .ref q_t_past, .int t_states, .ref q_t_kept, .int t_isKept, .ref q_t_text, .int t_length, .ref q_t_order, .ref q_t_told, .int t_spot, .int t_toldRows, .ref q_t_rowsTaken, .ref q_t_columnsTaken, .ref q_t_ways, .ref q_t_scaled, .ref q_t_rowFactors, .ref q_t_columnFactors, .ref q_t_rest, .ref q_t_diagonals, .ref q_t_weights])), (q_t_text, .inl (G.2 0, 100, .inl t_text))] sz)) 0 0 (va_A [(q_t, .inr (9, [.ref q_t_z, .ref q_t_old, .ref q_t_past, .int t_states, .ref q_t_kept, .int t_isKept, .ref q_t_text, .int t_length, .ref q_t_order, .ref q_t_told, .int t_spot, .int t_toldRows, .ref q_t_rowsTaken, .ref q_t_columnsTaken, .ref q_t_ways, .ref q_t_scaled, .ref q_t_rowFactors, .ref q_t_columnFactors, .ref q_t_rest, .ref q_t_diagonals, .ref q_t_weights])), (q_t_text, .inl (G.2 0, 100, .inl t_text))] sz) := by
  refine Met.ofW (cc := cX10_type) (maxL := 2) (ret := (some .int)) (by decide) rfl ?_
  intro p e s m args below meth c s₁ B hml hv
  obtain ⟨rfl, hsz, hP, hK, hD0⟩ := hv
  subst hsz
  have hD := hD0.self (sz := s.heap.size)
  generalize hAe : va_A [(q_t, .inr (9, [.ref q_t_z, .ref q_t_old, .ref q_t_past, .int t_states, .ref q_t_kept, .int t_isKept, .ref q_t_text, .int t_length, .ref q_t_order, .ref q_t_told, .int t_spot, .int t_toldRows, .ref q_t_rowsTaken, .ref q_t_columnsTaken, .ref q_t_ways, .ref q_t_scaled, .ref q_t_rowFactors, .ref q_t_columnFactors, .ref q_t_rest, .ref q_t_diagonals, .ref q_t_weights])), (q_t_text, .inl (G.2 0, 100, .inl t_text))] s.heap.size = A at hD ⊢
  have hA : ∀ q : Nat, s.heap.size ≤ q → A q := fun q h => by rw [← hAe]; exact Or.inr h
  have hl := lv_entry ([.ref q_t, .int a1]) (n := 2) (Nat.le_of_ble_eq_true rfl)
  rw [lg_entry_eq]
  refine k_X10_type ⟨B.exec, B.bytes, hml, findClass_of_methodNamed B.named, atoms_spec (ws := wsX10_type) B.pre⟩ G hK hA q_t q_t_z q_t_old q_t_past q_t_kept q_t_text q_t_order q_t_told q_t_rowsTaken q_t_columnsTaken q_t_ways q_t_scaled q_t_rowFactors q_t_columnFactors q_t_rest q_t_diagonals q_t_weights _ _ _ _ _ _ _ _ _ _ h ?_ _ _ _ hP hD va_S.rf hl
  intro H locs ls pc hd hP hD hS
  exact W.iret B.exec B.bytes B.returns (fun t ht hW => ⟨⟨r, (), rfl, rfl, by rw [ht]; exact hP, hD⟩, hS.F ht⟩) hS.2.2 hd B.notSynchronized
set_option maxRecDepth 20000 in
theorem wd_X10_clearText_1 : Cond.fieldLink RX10 112 "PermanentDeskModel" "length" "I" ∈ wsX10_clearText := List.mem_of_getElem? (i := 1) (by decide +kernel)
set_option maxRecDepth 20000 in
theorem wi_X10_clearText_X10 : ∀ w ∈ u_ws RX10 TX10 21, w ∈ wsX10_clearText := by decide +kernel
def f_X10_clearText (t_length : Int32) : Option (Int32 × Int32) :=
  some (t_length, (0 : Int32))
set_option maxHeartbeats 4000000 in
set_option maxRecDepth 100000 in
theorem k_X10_clearText {p : Program} {l : Launch} {e : Env} {s : State} {m : MethodId} {args : Array Value} {below : List Frame} {meth : Method} {c : Code} {Q : State → Prop} {A0 : Nat → Prop} {H0 : Heap} (C : CallFix p m c cX10_clearText 2 s args wsX10_clearText RX10) (G : GT) (hK : gK G s) (hA : ∀ q : Nat, H0.size ≤ q → A0 q) (q_t q_t_z q_t_old q_t_past q_t_kept q_t_text q_t_order q_t_told q_t_rowsTaken q_t_columnsTaken q_t_ways q_t_scaled q_t_rowFactors q_t_columnFactors q_t_rest q_t_diagonals q_t_weights : Nat) (t_states : Int32) (t_isKept : Int32) (t_length : Int32) (t_spot : Int32) (t_toldRows : Int32) (r : Int32) (o_t_length : Int32) (h : f_X10_clearText t_length = some (r, o_t_length)) (KR : ∀ (H : Heap) (locs : List Loc) (ls : Array Slot) (pc : Nat), decode cX10_clearText pc = .ok (.ireturn, 1) → va_P G.1 vwCl [(q_t, .inr (9, [.ref q_t_z, .ref q_t_old, .ref q_t_past, .int t_states, .ref q_t_kept, .int t_isKept, .ref q_t_text, .int o_t_length, .ref q_t_order, .ref q_t_told, .int t_spot, .int t_toldRows, .ref q_t_rowsTaken, .ref q_t_columnsTaken, .ref q_t_ways, .ref q_t_scaled, .ref q_t_rowFactors, .ref q_t_columnFactors, .ref q_t_rest, .ref q_t_diagonals, .ref q_t_weights]))] H → va_D A0 [(q_t, .inr (9, [.ref q_t_z, .ref q_t_old, .ref q_t_past, .int t_states, .ref q_t_kept, .int t_isKept, .ref q_t_text, .int o_t_length, .ref q_t_order, .ref q_t_told, .int t_spot, .int t_toldRows, .ref q_t_rowsTaken, .ref q_t_columnsTaken, .ref q_t_ways, .ref q_t_scaled, .ref q_t_rowFactors, .ref q_t_columnFactors, .ref q_t_rest, .ref q_t_diagonals, .ref q_t_weights]))] → va_S A0 H0 H locs → W p l e ({ frames := 0, cells := 0, slots := 0, locals := 0 } : Room) s m args below meth c H locs 0 0 Q (F0 m pc ls [.int r])) : ∀ (H : Heap) (locs : List Loc) (ls : Array Slot), va_P G.1 vwCl [(q_t, .inr (9, [.ref q_t_z, .ref q_t_old, .ref q_t_past, .int t_states, .ref q_t_kept, .int t_isKept, .ref q_t_text, .int t_length, .ref q_t_order, .ref q_t_told, .int t_spot, .int t_toldRows, .ref q_t_rowsTaken, .ref q_t_columnsTaken, .ref q_t_ways, .ref q_t_scaled, .ref q_t_rowFactors, .ref q_t_columnFactors, .ref q_t_rest, .ref q_t_diagonals, .ref q_t_weights]))] H → va_D A0 [(q_t, .inr (9, [.ref q_t_z, .ref q_t_old, .ref q_t_past, .int t_states, .ref q_t_kept, .int t_isKept, .ref q_t_text, .int t_length, .ref q_t_order, .ref q_t_told, .int t_spot, .int t_toldRows, .ref q_t_rowsTaken, .ref q_t_columnsTaken, .ref q_t_ways, .ref q_t_scaled, .ref q_t_rowFactors, .ref q_t_columnFactors, .ref q_t_rest, .ref q_t_diagonals, .ref q_t_weights]))] → va_S A0 H0 H locs → lv_has ls 2 [(0, .ref q_t)] → W p l e ({ frames := 0, cells := 0, slots := 0, locals := 0 } : Room) s m args below meth c H locs 0 0 Q (F0 m 0 ls []) := by
  obtain ⟨hx, hb, hml, hown, hts⟩ := C
  intro H locs ls hP hD hS hl
  rw [f_X10_clearText] at h
  refine lv_aload_n hx hb dX10_clearText_0 rfl (lv_at hl 0 rfl) ?_
  refine va_get (D := G.1) (ci := 9) (v := .int t_length) (C := RX10) (T := TX10) (N := 21) hx hb hts wi_X10_clearText_X10 hown hK hP 0 rfl rfl 7 (by decide) (hts _ wd_X10_clearText_1) (fun _ h9 => h9) rfl dX10_clearText_1 ?_
  refine lv_istore_n (lv' := [(1, .int t_length), (0, .ref q_t)]) hx hb dX10_clearText_4 rfl hl (by decide) rfl (fun ls hl => ?_)
  refine lv_aload_n hx hb dX10_clearText_5 rfl (lv_at hl 1 rfl) ?_
  refine lv_iconst (v := 0) hx hb dX10_clearText_6 (by decide) ?_
  refine st_put (D := G.1) (ci := 9) (v := .int (0 : Int32)) (ty := .int) (C := RX10) (T := TX10) (N := 21) (wn := [(q_t, .inr (9, [.ref q_t_z, .ref q_t_old, .ref q_t_past, .int t_states, .ref q_t_kept, .int t_isKept, .ref q_t_text, .int (0 : Int32), .ref q_t_order, .ref q_t_told, .int t_spot, .int t_toldRows, .ref q_t_rowsTaken, .ref q_t_columnsTaken, .ref q_t_ways, .ref q_t_scaled, .ref q_t_rowFactors, .ref q_t_columnFactors, .ref q_t_rest, .ref q_t_diagonals, .ref q_t_weights]))]) hx hb hts wi_X10_clearText_X10 tyX10 tyX10_ok nmX10 hown hK hP hD hS 0 rfl rfl 7 (by decide) (hts _ wd_X10_clearText_1) (fun _ h9 => h9) rfl (by decide +kernel) rfl rfl (Nat.le_of_ble_eq_true rfl) dX10_clearText_7 rfl (fun H locs hP hD hS => ?_)
  refine lv_iload_n hx hb dX10_clearText_10 rfl (lv_at hl 0 rfl) ?_
  obtain ⟨rfl, rfl⟩ := sm2 h
  exact KR H locs ls 11 dX10_clearText_11 hP hD hS
set_option maxHeartbeats 4000000 in
set_option maxRecDepth 100000 in
theorem c_X10_clearText (l : Launch) (G : GT) (q_t q_t_z q_t_old q_t_past q_t_kept q_t_text q_t_order q_t_told q_t_rowsTaken q_t_columnsTaken q_t_ways q_t_scaled q_t_rowFactors q_t_columnFactors q_t_rest q_t_diagonals q_t_weights : Nat) (sz : Nat) (t_states : Int32) (t_isKept : Int32) (t_length : Int32) (t_spot : Int32) (t_toldRows : Int32) (r : Int32) (o_t_length : Int32) (h : f_X10_clearText t_length = some (r, o_t_length)) : Met l yX10_clearText wsX10_clearText ({ frames := 0, cells := 0, slots := 0, locals := 0 } : Room) (va_Pc [.ref q_t] (pcW G [(q_t, .inr (9, [.ref q_t_z, .ref q_t_old, .ref q_t_past, .int t_states, .ref q_t_kept, .int t_isKept, .ref q_t_text, .int t_length, .ref q_t_order, .ref q_t_told, .int t_spot, .int t_toldRows, .ref q_t_rowsTaken, .ref q_t_columnsTaken, .ref q_t_ways, .ref q_t_scaled, .ref q_t_rowFactors, .ref q_t_columnFactors, .ref q_t_rest, .ref q_t_diagonals, .ref q_t_weights]))] sz)) (va_Qi (fun r9 (_ : Unit) => r9 = r) (fun _ t => atW G (va_A [(q_t, .inr (9, [.ref q_t_z, .ref q_t_old, .ref q_t_past, .int t_states, .ref q_t_kept, .int t_isKept, .ref q_t_text, .int t_length, .ref q_t_order, .ref q_t_told, .int t_spot, .int t_toldRows, .ref q_t_rowsTaken, .ref q_t_columnsTaken, .ref q_t_ways, .ref q_t_scaled, .ref q_t_rowFactors, .ref q_t_columnFactors, .ref q_t_rest, .ref q_t_diagonals, .ref q_t_weights]))] sz) [(q_t, .inr (9, [.ref q_t_z, .ref q_t_old, .ref q_t_past, .int t_states, .ref q_t_kept, .int t_isKept, .ref q_t_text, .int o_t_length, .ref q_t_order, .ref q_t_told, .int t_spot, .int t_toldRows, .ref q_t_rowsTaken, .ref q_t_columnsTaken, .ref q_t_ways, .ref q_t_scaled, .ref q_t_rowFactors, .ref q_t_columnFactors, .ref q_t_rest, .ref q_t_diagonals, .ref q_t_weights]))] t) (va_A [(q_t, .inr (9, [.ref q_t_z, .ref q_t_old, .ref q_t_past, .int t_states, .ref q_t_kept, .int t_isKept, .ref q_t_text, .int t_length, .ref q_t_order, .ref q_t_told, .int t_spot, .int t_toldRows, .ref q_t_rowsTaken, .ref q_t_columnsTaken, .ref q_t_ways, .ref q_t_scaled, .ref q_t_rowFactors, .ref q_t_columnFactors, .ref q_t_rest, .ref q_t_diagonals, .ref q_t_weights]))] sz)) 0 0 (va_A [(q_t, .inr (9, [.ref q_t_z, .ref q_t_old, .ref q_t_past, .int t_states, .ref q_t_kept, .int t_isKept, .ref q_t_text, .int t_length, .ref q_t_order, .ref q_t_told, .int t_spot, .int t_toldRows, .ref q_t_rowsTaken, .ref q_t_columnsTaken, .ref q_t_ways, .ref q_t_scaled, .ref q_t_rowFactors, .ref q_t_columnFactors, .ref q_t_rest, .ref q_t_diagonals, .ref q_t_weights]))] sz) := by
  refine Met.ofW (cc := cX10_clearText) (maxL := 2) (ret := (some .int)) (by decide) rfl ?_
  intro p e s m args below meth c s₁ B hml hv
  obtain ⟨rfl, hsz, hP, hK, hD0⟩ := hv
  subst hsz
  have hD := hD0.self (sz := s.heap.size)
  generalize hAe : va_A [(q_t, .inr (9, [.ref q_t_z, .ref q_t_old, .ref q_t_past, .int t_states, .ref q_t_kept, .int t_isKept, .ref q_t_text, .int t_length, .ref q_t_order, .ref q_t_told, .int t_spot, .int t_toldRows, .ref q_t_rowsTaken, .ref q_t_columnsTaken, .ref q_t_ways, .ref q_t_scaled, .ref q_t_rowFactors, .ref q_t_columnFactors, .ref q_t_rest, .ref q_t_diagonals, .ref q_t_weights]))] s.heap.size = A at hD ⊢
  have hA : ∀ q : Nat, s.heap.size ≤ q → A q := fun q h => by rw [← hAe]; exact Or.inr h
  have hl := lv_entry ([.ref q_t]) (n := 2) (Nat.le_of_ble_eq_true rfl)
  rw [lg_entry_eq]
  refine k_X10_clearText ⟨B.exec, B.bytes, hml, findClass_of_methodNamed B.named, atoms_spec (ws := wsX10_clearText) B.pre⟩ G hK hA q_t q_t_z q_t_old q_t_past q_t_kept q_t_text q_t_order q_t_told q_t_rowsTaken q_t_columnsTaken q_t_ways q_t_scaled q_t_rowFactors q_t_columnFactors q_t_rest q_t_diagonals q_t_weights _ _ _ _ _ _ _ h ?_ _ _ _ hP hD va_S.rf hl
  intro H locs ls pc hd hP hD hS
  exact W.iret B.exec B.bytes B.returns (fun t ht hW => ⟨⟨r, (), rfl, rfl, by rw [ht]; exact hP, hD⟩, hS.F ht⟩) hS.2.2 hd B.notSynchronized
set_option maxRecDepth 20000 in
theorem wd_X10_sees_1 : Cond.fieldLink RX10 116 "PermanentDeskModel" "spot" "I" ∈ wsX10_sees := List.mem_of_getElem? (i := 1) (by decide +kernel)
set_option maxRecDepth 20000 in
theorem wi_X10_sees_X10 : ∀ w ∈ u_ws RX10 TX10 21, w ∈ wsX10_sees := by decide +kernel
set_option maxRecDepth 20000 in
theorem wd_X10_sees_2 : Cond.fieldLink RX10 112 "PermanentDeskModel" "length" "I" ∈ wsX10_sees := List.mem_of_getElem? (i := 2) (by decide +kernel)
set_option maxRecDepth 20000 in
theorem wd_X10_sees_3 : Cond.fieldLink RX10 22 "PermanentDeskModel" "text" "[I" ∈ wsX10_sees := List.mem_of_getElem? (i := 3) (by decide +kernel)
def f_X10_sees (t_length : Int32) (t_spot : Int32) (t_text : Nat → Int32) (a1 : Int32) (a2 : Int32) : Option Int32 :=
  if t_length ≤ t_spot then
    some (0 : Int32)
  else
    gd (okI t_spot 100) (
    (f_X10_in (t_text t_spot.toNatClampNeg) a1 a2).bind (fun r_3 =>
    if r_3 = 0 then
      some (0 : Int32)
    else
      some (1 : Int32)))
set_option maxHeartbeats 4000000 in
set_option maxRecDepth 100000 in
theorem k_X10_sees {p : Program} {l : Launch} {e : Env} {s : State} {m : MethodId} {args : Array Value} {below : List Frame} {meth : Method} {c : Code} {Q : State → Prop} {A0 : Nat → Prop} {H0 : Heap} (C : CallFix p m c cX10_sees 3 s args wsX10_sees RX10) (G : GT) (hK : gK G s) (hA : ∀ q : Nat, H0.size ≤ q → A0 q) (q_t q_t_z q_t_old q_t_past q_t_kept q_t_text q_t_order q_t_told q_t_rowsTaken q_t_columnsTaken q_t_ways q_t_scaled q_t_rowFactors q_t_columnFactors q_t_rest q_t_diagonals q_t_weights : Nat) (t_states : Int32) (t_isKept : Int32) (t_length : Int32) (t_spot : Int32) (t_toldRows : Int32) (t_text : Nat → Int32) (a1 : Int32) (a2 : Int32) (r : Int32) (h : f_X10_sees t_length t_spot t_text a1 a2 = some r) (KR : ∀ (H : Heap) (locs : List Loc) (ls : Array Slot) (pc : Nat), decode cX10_sees pc = .ok (.ireturn, 1) → (r = 0 ∨ r = 1) → va_P G.1 vwCl [(q_t, .inr (9, [.ref q_t_z, .ref q_t_old, .ref q_t_past, .int t_states, .ref q_t_kept, .int t_isKept, .ref q_t_text, .int t_length, .ref q_t_order, .ref q_t_told, .int t_spot, .int t_toldRows, .ref q_t_rowsTaken, .ref q_t_columnsTaken, .ref q_t_ways, .ref q_t_scaled, .ref q_t_rowFactors, .ref q_t_columnFactors, .ref q_t_rest, .ref q_t_diagonals, .ref q_t_weights])), (q_t_text, .inl (G.2 0, 100, .inl t_text))] H → va_D A0 [(q_t, .inr (9, [.ref q_t_z, .ref q_t_old, .ref q_t_past, .int t_states, .ref q_t_kept, .int t_isKept, .ref q_t_text, .int t_length, .ref q_t_order, .ref q_t_told, .int t_spot, .int t_toldRows, .ref q_t_rowsTaken, .ref q_t_columnsTaken, .ref q_t_ways, .ref q_t_scaled, .ref q_t_rowFactors, .ref q_t_columnFactors, .ref q_t_rest, .ref q_t_diagonals, .ref q_t_weights])), (q_t_text, .inl (G.2 0, 100, .inl t_text))] → va_S A0 H0 H locs → W p l e ({ frames := 1, cells := 0, slots := 0, locals := 22 } : Room) s m args below meth c H locs 0 0 Q (F0 m pc ls [.int r])) : ∀ (H : Heap) (locs : List Loc) (ls : Array Slot), va_P G.1 vwCl [(q_t, .inr (9, [.ref q_t_z, .ref q_t_old, .ref q_t_past, .int t_states, .ref q_t_kept, .int t_isKept, .ref q_t_text, .int t_length, .ref q_t_order, .ref q_t_told, .int t_spot, .int t_toldRows, .ref q_t_rowsTaken, .ref q_t_columnsTaken, .ref q_t_ways, .ref q_t_scaled, .ref q_t_rowFactors, .ref q_t_columnFactors, .ref q_t_rest, .ref q_t_diagonals, .ref q_t_weights])), (q_t_text, .inl (G.2 0, 100, .inl t_text))] H → va_D A0 [(q_t, .inr (9, [.ref q_t_z, .ref q_t_old, .ref q_t_past, .int t_states, .ref q_t_kept, .int t_isKept, .ref q_t_text, .int t_length, .ref q_t_order, .ref q_t_told, .int t_spot, .int t_toldRows, .ref q_t_rowsTaken, .ref q_t_columnsTaken, .ref q_t_ways, .ref q_t_scaled, .ref q_t_rowFactors, .ref q_t_columnFactors, .ref q_t_rest, .ref q_t_diagonals, .ref q_t_weights])), (q_t_text, .inl (G.2 0, 100, .inl t_text))] → va_S A0 H0 H locs → lv_has ls 3 [(0, .ref q_t), (1, .int a1), (2, .int a2)] → W p l e ({ frames := 1, cells := 0, slots := 0, locals := 22 } : Room) s m args below meth c H locs 0 0 Q (F0 m 0 ls []) := by
  obtain ⟨hx, hb, hml, hown, hts⟩ := C
  intro H locs ls hP hD hS hl
  rw [f_X10_sees] at h
  refine lv_aload_n hx hb dX10_sees_0 rfl (lv_at hl 0 rfl) ?_
  refine va_get (D := G.1) (ci := 9) (v := .int t_spot) (C := RX10) (T := TX10) (N := 21) hx hb hts wi_X10_sees_X10 hown hK hP 0 rfl rfl 10 (by decide) (hts _ wd_X10_sees_1) (fun _ h9 => h9) rfl dX10_sees_1 ?_
  refine lv_aload_n hx hb dX10_sees_4 rfl (lv_at hl 0 rfl) ?_
  refine va_get (D := G.1) (ci := 9) (v := .int t_length) (C := RX10) (T := TX10) (N := 21) hx hb hts wi_X10_sees_X10 hown hK hP 0 rfl rfl 7 (by decide) (hts _ wd_X10_sees_2) (fun _ h9 => h9) rfl dX10_sees_5 ?_
  refine lv_icmp_ge (tgt := 32) hx hb dX10_sees_8 (by decide) (fun c_1 => ?_) (fun c_1 => ?_)
  · replace h := it_t h c_1
    refine lv_iconst (v := 0) hx hb dX10_sees_32 (by decide) ?_
    obtain rfl := sm1 h
    exact KR H locs ls 33 dX10_sees_33 (Or.inl rfl) hP hD hS
  · replace h := it_f h c_1
    refine lv_aload_n hx hb dX10_sees_11 rfl (lv_at hl 0 rfl) ?_
    refine va_get (D := G.1) (ci := 9) (v := .ref q_t_text) (C := RX10) (T := TX10) (N := 21) hx hb hts wi_X10_sees_X10 hown hK hP 0 rfl rfl 6 (by decide) (hts _ wd_X10_sees_3) (fun _ h9 => h9) rfl dX10_sees_12 ?_
    refine lv_aload_n hx hb dX10_sees_15 rfl (lv_at hl 0 rfl) ?_
    refine va_get (D := G.1) (ci := 9) (v := .int t_spot) (C := RX10) (T := TX10) (N := 21) hx hb hts wi_X10_sees_X10 hown hK hP 0 rfl rfl 10 (by decide) (hts _ wd_X10_sees_1) (fun _ h9 => h9) rfl dX10_sees_16 ?_
    obtain ⟨g_2, h⟩ := gd_ok h
    refine va_iald (D := G.1) hx hb hK hP 1 0 rfl rfl g_2 dX10_sees_19 ?_
    refine lv_iload_n hx hb dX10_sees_20 rfl (lv_at hl 1 rfl) ?_
    refine lv_iload_n hx hb dX10_sees_21 rfl (lv_at hl 2 rfl) ?_
    obtain ⟨r_3, hf_4, h⟩ := bd_ok h
    refine ck_Si (rest := []) (wn := [(q_t, .inr (9, [.ref q_t_z, .ref q_t_old, .ref q_t_past, .int t_states, .ref q_t_kept, .int t_isKept, .ref q_t_text, .int t_length, .ref q_t_order, .ref q_t_told, .int t_spot, .int t_toldRows, .ref q_t_rowsTaken, .ref q_t_columnsTaken, .ref q_t_ways, .ref q_t_scaled, .ref q_t_rowFactors, .ref q_t_columnFactors, .ref q_t_rest, .ref q_t_diagonals, .ref q_t_weights])), (q_t_text, .inl (G.2 0, 100, .inl t_text))]) ⟨hx, hb, hml, hown, hts⟩ hK hP hD hS hA [] [0, 1] [0, 1] (c_X10_in l G _ (t_text t_spot.toNatClampNeg) a1 a2 _ hf_4) (cwS 3 hts gX10_sees_X10_in rfl rfl rfl (by decide +kernel) ⟨Nat.le_of_ble_eq_true rfl, Nat.le_of_ble_eq_true rfl⟩) rfl rfl rfl rfl (by decide) rfl rfl rfl hl.1 rfl (Nat.le_of_ble_eq_true rfl) dX10_sees_22 ⟨Nat.zero_le _, Nat.zero_le _⟩ (fun H locs hP hD hS => ?_)
    refine lv_if_eq (tgt := 32) hx hb dX10_sees_25 (by decide) (fun c_5 => ?_) (fun c_5 => ?_)
    · replace h := it_t h c_5
      refine lv_iconst (v := 0) hx hb dX10_sees_32 (by decide) ?_
      obtain rfl := sm1 h
      exact KR H locs ls 33 dX10_sees_33 (Or.inl rfl) hP hD hS
    · replace h := it_f h c_5
      refine lv_iconst (v := 1) hx hb dX10_sees_28 (by decide) ?_
      refine lv_goto (tgt := 33) hx hb dX10_sees_29 (by decide) ?_
      obtain rfl := sm1 h
      exact KR H locs ls 33 dX10_sees_33 (Or.inr rfl) hP hD hS
set_option maxHeartbeats 4000000 in
set_option maxRecDepth 100000 in
theorem c_X10_sees (l : Launch) (G : GT) (q_t q_t_z q_t_old q_t_past q_t_kept q_t_text q_t_order q_t_told q_t_rowsTaken q_t_columnsTaken q_t_ways q_t_scaled q_t_rowFactors q_t_columnFactors q_t_rest q_t_diagonals q_t_weights : Nat) (sz : Nat) (t_states : Int32) (t_isKept : Int32) (t_length : Int32) (t_spot : Int32) (t_toldRows : Int32) (t_text : Nat → Int32) (a1 : Int32) (a2 : Int32) (r : Int32) (h : f_X10_sees t_length t_spot t_text a1 a2 = some r) : Met l yX10_sees wsX10_sees ({ frames := 1, cells := 0, slots := 0, locals := 22 } : Room) (va_Pc [.ref q_t, .int a1, .int a2] (pcW G [(q_t, .inr (9, [.ref q_t_z, .ref q_t_old, .ref q_t_past, .int t_states, .ref q_t_kept, .int t_isKept, .ref q_t_text, .int t_length, .ref q_t_order, .ref q_t_told, .int t_spot, .int t_toldRows, .ref q_t_rowsTaken, .ref q_t_columnsTaken, .ref q_t_ways, .ref q_t_scaled, .ref q_t_rowFactors, .ref q_t_columnFactors, .ref q_t_rest, .ref q_t_diagonals, .ref q_t_weights])), (q_t_text, .inl (G.2 0, 100, .inl t_text))] sz)) (va_Qi (fun r9 (_ : Unit) => r9 = r) (fun _ t => atW G (va_A [(q_t, .inr (9, [.ref q_t_z, .ref q_t_old, .ref q_t_past, .int t_states, .ref q_t_kept, .int t_isKept, .ref q_t_text, .int t_length, .ref q_t_order, .ref q_t_told, .int t_spot, .int t_toldRows, .ref q_t_rowsTaken, .ref q_t_columnsTaken, .ref q_t_ways, .ref q_t_scaled, .ref q_t_rowFactors, .ref q_t_columnFactors, .ref q_t_rest, .ref q_t_diagonals, .ref q_t_weights])), (q_t_text, .inl (G.2 0, 100, .inl t_text))] sz) [(q_t, .inr (9, [.ref q_t_z, .ref q_t_old, .ref q_t_past, .int t_states, .ref q_t_kept, .int t_isKept, .ref q_t_text, .int t_length, .ref q_t_order, .ref q_t_told, .int t_spot, .int t_toldRows, .ref q_t_rowsTaken, .ref q_t_columnsTaken, .ref q_t_ways, .ref q_t_scaled, .ref q_t_rowFactors, .ref q_t_columnFactors, .ref q_t_rest, .ref q_t_diagonals, .ref q_t_weights])), (q_t_text, .inl (G.2 0, 100, .inl t_text))] t) (va_A [(q_t, .inr (9, [.ref q_t_z, .ref q_t_old, .ref q_t_past, .int t_states, .ref q_t_kept, .int t_isKept, .ref q_t_text, .int t_length, .ref q_t_order, .ref q_t_told, .int t_spot, .int t_toldRows, .ref q_t_rowsTaken, .ref q_t_columnsTaken, .ref q_t_ways, .ref q_t_scaled, .ref q_t_rowFactors, .ref q_t_columnFactors, .ref q_t_rest, .ref q_t_diagonals, .ref q_t_weights])), (q_t_text, .inl (G.2 0, 100, .inl t_text))] sz)) 0 0 (va_A [(q_t, .inr (9, [.ref q_t_z, .ref q_t_old, .ref q_t_past, .int t_states, .ref q_t_kept, .int t_isKept, .ref q_t_text, .int t_length, .ref q_t_order, .ref q_t_told, .int t_spot, .int t_toldRows, .ref q_t_rowsTaken, .ref q_t_columnsTaken, .ref q_t_ways, .ref q_t_scaled, .ref q_t_rowFactors, .ref q_t_columnFactors, .ref q_t_rest, .ref q_t_diagonals, .ref q_t_weights])), (q_t_text, .inl (G.2 0, 100, .inl t_text))] sz) := by
  refine Met.ofW (cc := cX10_sees) (maxL := 3) (ret := (some .boolean)) (by decide) rfl ?_
  intro p e s m args below meth c s₁ B hml hv
  obtain ⟨rfl, hsz, hP, hK, hD0⟩ := hv
  subst hsz
  have hD := hD0.self (sz := s.heap.size)
  generalize hAe : va_A [(q_t, .inr (9, [.ref q_t_z, .ref q_t_old, .ref q_t_past, .int t_states, .ref q_t_kept, .int t_isKept, .ref q_t_text, .int t_length, .ref q_t_order, .ref q_t_told, .int t_spot, .int t_toldRows, .ref q_t_rowsTaken, .ref q_t_columnsTaken, .ref q_t_ways, .ref q_t_scaled, .ref q_t_rowFactors, .ref q_t_columnFactors, .ref q_t_rest, .ref q_t_diagonals, .ref q_t_weights])), (q_t_text, .inl (G.2 0, 100, .inl t_text))] s.heap.size = A at hD ⊢
  have hA : ∀ q : Nat, s.heap.size ≤ q → A q := fun q h => by rw [← hAe]; exact Or.inr h
  have hl := lv_entry ([.ref q_t, .int a1, .int a2]) (n := 3) (Nat.le_of_ble_eq_true rfl)
  rw [lg_entry_eq]
  refine k_X10_sees ⟨B.exec, B.bytes, hml, findClass_of_methodNamed B.named, atoms_spec (ws := wsX10_sees) B.pre⟩ G hK hA q_t q_t_z q_t_old q_t_past q_t_kept q_t_text q_t_order q_t_told q_t_rowsTaken q_t_columnsTaken q_t_ways q_t_scaled q_t_rowFactors q_t_columnFactors q_t_rest q_t_diagonals q_t_weights _ _ _ _ _ _ _ _ _ h ?_ _ _ _ hP hD va_S.rf hl
  intro H locs ls pc hd hbo hP hD hS
  exact W.zret B.exec B.bytes B.returns (by rcases hbo with e | e <;> subst e <;> rfl) (fun t ht hW => ⟨⟨r, (), rfl, rfl, by rw [ht]; exact hP, hD⟩, hS.F ht⟩) hS.2.2 hd B.notSynchronized
set_option maxRecDepth 20000 in
theorem wd_X10_takes_1 : Cond.fieldLink RX10 116 "PermanentDeskModel" "spot" "I" ∈ wsX10_takes := List.mem_of_getElem? (i := 1) (by decide +kernel)
set_option maxRecDepth 20000 in
theorem wi_X10_takes_X10 : ∀ w ∈ u_ws RX10 TX10 21, w ∈ wsX10_takes := by decide +kernel
def f_X10_takes (t_length : Int32) (t_spot : Int32) (t_text : Nat → Int32) (a1 : Int32) : Option (Int32 × Int32) :=
  (f_X10_sees t_length t_spot t_text a1 a1).bind (fun r_1 =>
  if r_1 = 0 then
    pl ((t_spot + (0 : Int32)) : Int32) (fun t_spot_4 =>
    gd (r_1 = 0 ∨ r_1 = 1) (
    some (r_1, t_spot_4)))
  else
    pl ((t_spot + (1 : Int32)) : Int32) (fun t_spot_6 =>
    gd (r_1 = 0 ∨ r_1 = 1) (
    some (r_1, t_spot_6))))
set_option maxHeartbeats 4000000 in
set_option maxRecDepth 100000 in
theorem k_X10_takes {p : Program} {l : Launch} {e : Env} {s : State} {m : MethodId} {args : Array Value} {below : List Frame} {meth : Method} {c : Code} {Q : State → Prop} {A0 : Nat → Prop} {H0 : Heap} (C : CallFix p m c cX10_takes 3 s args wsX10_takes RX10) (G : GT) (hK : gK G s) (hA : ∀ q : Nat, H0.size ≤ q → A0 q) (q_t q_t_z q_t_old q_t_past q_t_kept q_t_text q_t_order q_t_told q_t_rowsTaken q_t_columnsTaken q_t_ways q_t_scaled q_t_rowFactors q_t_columnFactors q_t_rest q_t_diagonals q_t_weights : Nat) (t_states : Int32) (t_isKept : Int32) (t_length : Int32) (t_spot : Int32) (t_toldRows : Int32) (t_text : Nat → Int32) (a1 : Int32) (r : Int32) (o_t_spot : Int32) (h : f_X10_takes t_length t_spot t_text a1 = some (r, o_t_spot)) (KR : ∀ (H : Heap) (locs : List Loc) (ls : Array Slot) (pc : Nat), decode cX10_takes pc = .ok (.ireturn, 1) → (r = 0 ∨ r = 1) → va_P G.1 vwCl [(q_t, .inr (9, [.ref q_t_z, .ref q_t_old, .ref q_t_past, .int t_states, .ref q_t_kept, .int t_isKept, .ref q_t_text, .int t_length, .ref q_t_order, .ref q_t_told, .int o_t_spot, .int t_toldRows, .ref q_t_rowsTaken, .ref q_t_columnsTaken, .ref q_t_ways, .ref q_t_scaled, .ref q_t_rowFactors, .ref q_t_columnFactors, .ref q_t_rest, .ref q_t_diagonals, .ref q_t_weights])), (q_t_text, .inl (G.2 0, 100, .inl t_text))] H → va_D A0 [(q_t, .inr (9, [.ref q_t_z, .ref q_t_old, .ref q_t_past, .int t_states, .ref q_t_kept, .int t_isKept, .ref q_t_text, .int t_length, .ref q_t_order, .ref q_t_told, .int o_t_spot, .int t_toldRows, .ref q_t_rowsTaken, .ref q_t_columnsTaken, .ref q_t_ways, .ref q_t_scaled, .ref q_t_rowFactors, .ref q_t_columnFactors, .ref q_t_rest, .ref q_t_diagonals, .ref q_t_weights])), (q_t_text, .inl (G.2 0, 100, .inl t_text))] → va_S A0 H0 H locs → W p l e ({ frames := 2, cells := 0, slots := 0, locals := 44 } : Room) s m args below meth c H locs 0 0 Q (F0 m pc ls [.int r])) : ∀ (H : Heap) (locs : List Loc) (ls : Array Slot), va_P G.1 vwCl [(q_t, .inr (9, [.ref q_t_z, .ref q_t_old, .ref q_t_past, .int t_states, .ref q_t_kept, .int t_isKept, .ref q_t_text, .int t_length, .ref q_t_order, .ref q_t_told, .int t_spot, .int t_toldRows, .ref q_t_rowsTaken, .ref q_t_columnsTaken, .ref q_t_ways, .ref q_t_scaled, .ref q_t_rowFactors, .ref q_t_columnFactors, .ref q_t_rest, .ref q_t_diagonals, .ref q_t_weights])), (q_t_text, .inl (G.2 0, 100, .inl t_text))] H → va_D A0 [(q_t, .inr (9, [.ref q_t_z, .ref q_t_old, .ref q_t_past, .int t_states, .ref q_t_kept, .int t_isKept, .ref q_t_text, .int t_length, .ref q_t_order, .ref q_t_told, .int t_spot, .int t_toldRows, .ref q_t_rowsTaken, .ref q_t_columnsTaken, .ref q_t_ways, .ref q_t_scaled, .ref q_t_rowFactors, .ref q_t_columnFactors, .ref q_t_rest, .ref q_t_diagonals, .ref q_t_weights])), (q_t_text, .inl (G.2 0, 100, .inl t_text))] → va_S A0 H0 H locs → lv_has ls 3 [(0, .ref q_t), (1, .int a1)] → W p l e ({ frames := 2, cells := 0, slots := 0, locals := 44 } : Room) s m args below meth c H locs 0 0 Q (F0 m 0 ls []) := by
  obtain ⟨hx, hb, hml, hown, hts⟩ := C
  intro H locs ls hP hD hS hl
  rw [f_X10_takes] at h
  refine lv_aload_n hx hb dX10_takes_0 rfl (lv_at hl 0 rfl) ?_
  refine lv_iload_n hx hb dX10_takes_1 rfl (lv_at hl 1 rfl) ?_
  refine lv_iload_n hx hb dX10_takes_2 rfl (lv_at hl 1 rfl) ?_
  obtain ⟨r_1, hf_2, h⟩ := bd_ok h
  refine ck_Vi (rest := []) (wn := [(q_t, .inr (9, [.ref q_t_z, .ref q_t_old, .ref q_t_past, .int t_states, .ref q_t_kept, .int t_isKept, .ref q_t_text, .int t_length, .ref q_t_order, .ref q_t_told, .int t_spot, .int t_toldRows, .ref q_t_rowsTaken, .ref q_t_columnsTaken, .ref q_t_ways, .ref q_t_scaled, .ref q_t_rowFactors, .ref q_t_columnFactors, .ref q_t_rest, .ref q_t_diagonals, .ref q_t_weights])), (q_t_text, .inl (G.2 0, 100, .inl t_text))]) ⟨hx, hb, hml, hown, hts⟩ hK hP hD hS hA [0, 1] [] [0, 1] (c_X10_sees l G q_t q_t_z q_t_old q_t_past q_t_kept q_t_text q_t_order q_t_told q_t_rowsTaken q_t_columnsTaken q_t_ways q_t_scaled q_t_rowFactors q_t_columnFactors q_t_rest q_t_diagonals q_t_weights _ t_states t_isKept t_length t_spot t_toldRows t_text a1 a1 _ hf_2) (cwV 2 hts gX10_takes_X10_sees rfl rfl rfl (by decide +kernel) ⟨Nat.le_of_ble_eq_true rfl, Nat.le_of_ble_eq_true rfl⟩) rfl rfl rfl rfl rfl rfl (by decide) rfl rfl rfl hl.1 rfl (Nat.le_of_ble_eq_true rfl) dX10_takes_3 ⟨Nat.zero_le _, Nat.zero_le _⟩ (fun H locs hP hD hS => ?_)
  refine lv_istore_n (lv' := [(2, .int r_1), (0, .ref q_t), (1, .int a1)]) hx hb dX10_takes_6 rfl hl (by decide) rfl (fun ls hl => ?_)
  refine lv_aload_n hx hb dX10_takes_7 rfl (lv_at hl 1 rfl) ?_
  refine lv_dup hx hb dX10_takes_8 rfl ?_
  refine va_get (D := G.1) (ci := 9) (v := .int t_spot) (C := RX10) (T := TX10) (N := 21) hx hb hts wi_X10_takes_X10 hown hK hP 0 rfl rfl 10 (by decide) (hts _ wd_X10_takes_1) (fun _ h9 => h9) rfl dX10_takes_9 ?_
  refine lv_iload_n hx hb dX10_takes_12 rfl (lv_at hl 0 rfl) ?_
  refine lv_if_eq (tgt := 20) hx hb dX10_takes_13 (by decide) (fun c_3 => ?_) (fun c_3 => ?_)
  · replace h := it_t h c_3
    refine lv_iconst (v := 0) hx hb dX10_takes_20 (by decide) ?_
    refine lv_iadd hx hb dX10_takes_21 ?_
    refine lv_topi (fun t_spot_4 et_spot_4 => ?_)
    replace h := pl_v h et_spot_4
    refine st_put (D := G.1) (ci := 9) (v := .int t_spot_4) (ty := .int) (C := RX10) (T := TX10) (N := 21) (wn := [(q_t, .inr (9, [.ref q_t_z, .ref q_t_old, .ref q_t_past, .int t_states, .ref q_t_kept, .int t_isKept, .ref q_t_text, .int t_length, .ref q_t_order, .ref q_t_told, .int t_spot_4, .int t_toldRows, .ref q_t_rowsTaken, .ref q_t_columnsTaken, .ref q_t_ways, .ref q_t_scaled, .ref q_t_rowFactors, .ref q_t_columnFactors, .ref q_t_rest, .ref q_t_diagonals, .ref q_t_weights])), (q_t_text, .inl (G.2 0, 100, .inl t_text))]) hx hb hts wi_X10_takes_X10 tyX10 tyX10_ok nmX10 hown hK hP hD hS 0 rfl rfl 10 (by decide) (hts _ wd_X10_takes_1) (fun _ h9 => h9) rfl (by decide +kernel) rfl rfl (Nat.le_of_ble_eq_true rfl) dX10_takes_22 rfl (fun H locs hP hD hS => ?_)
    refine lv_iload_n hx hb dX10_takes_25 rfl (lv_at hl 0 rfl) ?_
    obtain ⟨g_5, h⟩ := gd_ok h
    obtain ⟨rfl, rfl⟩ := sm2 h
    exact KR H locs ls 26 dX10_takes_26 g_5 hP hD hS
  · replace h := it_f h c_3
    refine lv_iconst (v := 1) hx hb dX10_takes_16 (by decide) ?_
    refine lv_goto (tgt := 21) hx hb dX10_takes_17 (by decide) ?_
    refine lv_iadd hx hb dX10_takes_21 ?_
    refine lv_topi (fun t_spot_6 et_spot_6 => ?_)
    replace h := pl_v h et_spot_6
    refine st_put (D := G.1) (ci := 9) (v := .int t_spot_6) (ty := .int) (C := RX10) (T := TX10) (N := 21) (wn := [(q_t, .inr (9, [.ref q_t_z, .ref q_t_old, .ref q_t_past, .int t_states, .ref q_t_kept, .int t_isKept, .ref q_t_text, .int t_length, .ref q_t_order, .ref q_t_told, .int t_spot_6, .int t_toldRows, .ref q_t_rowsTaken, .ref q_t_columnsTaken, .ref q_t_ways, .ref q_t_scaled, .ref q_t_rowFactors, .ref q_t_columnFactors, .ref q_t_rest, .ref q_t_diagonals, .ref q_t_weights])), (q_t_text, .inl (G.2 0, 100, .inl t_text))]) hx hb hts wi_X10_takes_X10 tyX10 tyX10_ok nmX10 hown hK hP hD hS 0 rfl rfl 10 (by decide) (hts _ wd_X10_takes_1) (fun _ h9 => h9) rfl (by decide +kernel) rfl rfl (Nat.le_of_ble_eq_true rfl) dX10_takes_22 rfl (fun H locs hP hD hS => ?_)
    refine lv_iload_n hx hb dX10_takes_25 rfl (lv_at hl 0 rfl) ?_
    obtain ⟨g_7, h⟩ := gd_ok h
    obtain ⟨rfl, rfl⟩ := sm2 h
    exact KR H locs ls 26 dX10_takes_26 g_7 hP hD hS
set_option maxHeartbeats 4000000 in
set_option maxRecDepth 100000 in
theorem c_X10_takes (l : Launch) (G : GT) (q_t q_t_z q_t_old q_t_past q_t_kept q_t_text q_t_order q_t_told q_t_rowsTaken q_t_columnsTaken q_t_ways q_t_scaled q_t_rowFactors q_t_columnFactors q_t_rest q_t_diagonals q_t_weights : Nat) (sz : Nat) (t_states : Int32) (t_isKept : Int32) (t_length : Int32) (t_spot : Int32) (t_toldRows : Int32) (t_text : Nat → Int32) (a1 : Int32) (r : Int32) (o_t_spot : Int32) (h : f_X10_takes t_length t_spot t_text a1 = some (r, o_t_spot)) : Met l yX10_takes wsX10_takes ({ frames := 2, cells := 0, slots := 0, locals := 44 } : Room) (va_Pc [.ref q_t, .int a1] (pcW G [(q_t, .inr (9, [.ref q_t_z, .ref q_t_old, .ref q_t_past, .int t_states, .ref q_t_kept, .int t_isKept, .ref q_t_text, .int t_length, .ref q_t_order, .ref q_t_told, .int t_spot, .int t_toldRows, .ref q_t_rowsTaken, .ref q_t_columnsTaken, .ref q_t_ways, .ref q_t_scaled, .ref q_t_rowFactors, .ref q_t_columnFactors, .ref q_t_rest, .ref q_t_diagonals, .ref q_t_weights])), (q_t_text, .inl (G.2 0, 100, .inl t_text))] sz)) (va_Qi (fun r9 (_ : Unit) => r9 = r) (fun _ t => atW G (va_A [(q_t, .inr (9, [.ref q_t_z, .ref q_t_old, .ref q_t_past, .int t_states, .ref q_t_kept, .int t_isKept, .ref q_t_text, .int t_length, .ref q_t_order, .ref q_t_told, .int t_spot, .int t_toldRows, .ref q_t_rowsTaken, .ref q_t_columnsTaken, .ref q_t_ways, .ref q_t_scaled, .ref q_t_rowFactors, .ref q_t_columnFactors, .ref q_t_rest, .ref q_t_diagonals, .ref q_t_weights])), (q_t_text, .inl (G.2 0, 100, .inl t_text))] sz) [(q_t, .inr (9, [.ref q_t_z, .ref q_t_old, .ref q_t_past, .int t_states, .ref q_t_kept, .int t_isKept, .ref q_t_text, .int t_length, .ref q_t_order, .ref q_t_told, .int o_t_spot, .int t_toldRows, .ref q_t_rowsTaken, .ref q_t_columnsTaken, .ref q_t_ways, .ref q_t_scaled, .ref q_t_rowFactors, .ref q_t_columnFactors, .ref q_t_rest, .ref q_t_diagonals, .ref q_t_weights])), (q_t_text, .inl (G.2 0, 100, .inl t_text))] t) (va_A [(q_t, .inr (9, [.ref q_t_z, .ref q_t_old, .ref q_t_past, .int t_states, .ref q_t_kept, .int t_isKept, .ref q_t_text, .int t_length, .ref q_t_order, .ref q_t_told, .int t_spot, .int t_toldRows, .ref q_t_rowsTaken, .ref q_t_columnsTaken, .ref q_t_ways, .ref q_t_scaled, .ref q_t_rowFactors, .ref q_t_columnFactors, .ref q_t_rest, .ref q_t_diagonals, .ref q_t_weights])), (q_t_text, .inl (G.2 0, 100, .inl t_text))] sz)) 0 0 (va_A [(q_t, .inr (9, [.ref q_t_z, .ref q_t_old, .ref q_t_past, .int t_states, .ref q_t_kept, .int t_isKept, .ref q_t_text, .int t_length, .ref q_t_order, .ref q_t_told, .int t_spot, .int t_toldRows, .ref q_t_rowsTaken, .ref q_t_columnsTaken, .ref q_t_ways, .ref q_t_scaled, .ref q_t_rowFactors, .ref q_t_columnFactors, .ref q_t_rest, .ref q_t_diagonals, .ref q_t_weights])), (q_t_text, .inl (G.2 0, 100, .inl t_text))] sz) := by
  refine Met.ofW (cc := cX10_takes) (maxL := 3) (ret := (some .boolean)) (by decide) rfl ?_
  intro p e s m args below meth c s₁ B hml hv
  obtain ⟨rfl, hsz, hP, hK, hD0⟩ := hv
  subst hsz
  have hD := hD0.self (sz := s.heap.size)
  generalize hAe : va_A [(q_t, .inr (9, [.ref q_t_z, .ref q_t_old, .ref q_t_past, .int t_states, .ref q_t_kept, .int t_isKept, .ref q_t_text, .int t_length, .ref q_t_order, .ref q_t_told, .int t_spot, .int t_toldRows, .ref q_t_rowsTaken, .ref q_t_columnsTaken, .ref q_t_ways, .ref q_t_scaled, .ref q_t_rowFactors, .ref q_t_columnFactors, .ref q_t_rest, .ref q_t_diagonals, .ref q_t_weights])), (q_t_text, .inl (G.2 0, 100, .inl t_text))] s.heap.size = A at hD ⊢
  have hA : ∀ q : Nat, s.heap.size ≤ q → A q := fun q h => by rw [← hAe]; exact Or.inr h
  have hl := lv_entry ([.ref q_t, .int a1]) (n := 3) (Nat.le_of_ble_eq_true rfl)
  rw [lg_entry_eq]
  refine k_X10_takes ⟨B.exec, B.bytes, hml, findClass_of_methodNamed B.named, atoms_spec (ws := wsX10_takes) B.pre⟩ G hK hA q_t q_t_z q_t_old q_t_past q_t_kept q_t_text q_t_order q_t_told q_t_rowsTaken q_t_columnsTaken q_t_ways q_t_scaled q_t_rowFactors q_t_columnFactors q_t_rest q_t_diagonals q_t_weights _ _ _ _ _ _ _ _ _ h ?_ _ _ _ hP hD va_S.rf hl
  intro H locs ls pc hd hbo hP hD hS
  exact W.zret B.exec B.bytes B.returns (by rcases hbo with e | e <;> subst e <;> rfl) (fun t ht hW => ⟨⟨r, (), rfl, rfl, by rw [ht]; exact hP, hD⟩, hS.F ht⟩) hS.2.2 hd B.notSynchronized
