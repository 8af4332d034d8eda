def f_X10_in (a1 : Int32) (a2 : Int32) (a3 : Int32) : Option Int32 :=
  if a1 < a2 then
    some (0 : Int32)
  else
    if a3 < a1 then
      some (0 : Int32)
    else
      some (1 : Int32)
set_option maxHeartbeats 4000000 in
set_option maxRecDepth 100000 in
theorem k_X10_in {p : Program} {l : Launch} {e : Env} {s : State} {m : MethodId} {args : Array Value} {below : List Frame} {meth : Method} {c : Code} {Q : State → Prop} {A0 : Nat → Prop} {H0 : Heap} (C : CallFix p m c cX10_in 3 s args wsX10_in RX10) (G : GT) (hK : gK G s) (hA : ∀ q : Nat, H0.size ≤ q → A0 q) (a1 : Int32) (a2 : Int32) (a3 : Int32) (r : Int32) (h : f_X10_in a1 a2 a3 = some r) (KR : ∀ (H : Heap) (locs : List Loc) (ls : Array Slot) (pc : Nat), decode cX10_in pc = .ok (.ireturn, 1) → (r = 0 ∨ r = 1) → va_P G.1 vwCl [] H → va_D A0 [] → va_S A0 H0 H locs → W p l e ({ frames := 0, cells := 0, slots := 0, locals := 0 } : Room) s m args below meth c H locs 0 0 Q (F0 m pc ls [.int r])) : ∀ (H : Heap) (locs : List Loc) (ls : Array Slot), va_P G.1 vwCl [] H → va_D A0 [] → va_S A0 H0 H locs → lv_has ls 3 [(0, .int a1), (1, .int a2), (2, .int a3)] → W p l e ({ frames := 0, cells := 0, slots := 0, locals := 0 } : Room) s m args below meth c H locs 0 0 Q (F0 m 0 ls []) := by
  obtain ⟨hx, hb, hml, hown, hts⟩ := C
  intro H locs ls hP hD hS hl
  rw [f_X10_in] at h
  refine lv_iload_n hx hb dX10_in_0 rfl (lv_at hl 0 rfl) ?_
  refine lv_iload_n hx hb dX10_in_1 rfl (lv_at hl 1 rfl) ?_
  refine lv_icmp_lt (tgt := 14) hx hb dX10_in_2 (by decide) (fun c_1 => ?_) (fun c_1 => ?_)
  · replace h := it_t h c_1
    refine lv_iconst (v := 0) hx hb dX10_in_14 (by decide) ?_
    obtain rfl := sm1 h
    exact KR H locs ls 15 dX10_in_15 (Or.inl rfl) hP hD hS
  · replace h := it_f h c_1
    refine lv_iload_n hx hb dX10_in_5 rfl (lv_at hl 0 rfl) ?_
    refine lv_iload_n hx hb dX10_in_6 rfl (lv_at hl 2 rfl) ?_
    refine lv_icmp_gt (tgt := 14) hx hb dX10_in_7 (by decide) (fun c_2 => ?_) (fun c_2 => ?_)
    · replace h := it_t h c_2
      refine lv_iconst (v := 0) hx hb dX10_in_14 (by decide) ?_
      obtain rfl := sm1 h
      exact KR H locs ls 15 dX10_in_15 (Or.inl rfl) hP hD hS
    · replace h := it_f h c_2
      refine lv_iconst (v := 1) hx hb dX10_in_10 (by decide) ?_
      refine lv_goto (tgt := 15) hx hb dX10_in_11 (by decide) ?_
      obtain rfl := sm1 h
      exact KR H locs ls 15 dX10_in_15 (Or.inr rfl) hP hD hS
set_option maxHeartbeats 4000000 in
set_option maxRecDepth 100000 in
theorem c_X10_in (l : Launch) (G : GT) (sz : Nat) (a1 : Int32) (a2 : Int32) (a3 : Int32) (r : Int32) (h : f_X10_in a1 a2 a3 = some r) : Met l yX10_in wsX10_in ({ frames := 0, cells := 0, slots := 0, locals := 0 } : Room) (va_Pc [.int a1, .int a2, .int a3] (pcW G [] sz)) (va_Qi (fun r9 (_ : Unit) => r9 = r) (fun _ t => atW G (va_A [] sz) [] t) (va_A [] sz)) 0 0 (va_A [] sz) := by
  refine Met.ofW (cc := cX10_in) (maxL := 3) (ret := (some .boolean)) (by decide) rfl ?_
  intro p e s m args below meth c s₁ B hml hv
  obtain ⟨rfl, hsz, hP, hK, hD0⟩ := hv
  subst hsz
  have hD := hD0.self (sz := s.heap.size)
  generalize hAe : va_A [] s.heap.size = A at hD ⊢
  have hA : ∀ q : Nat, s.heap.size ≤ q → A q := fun q h => by rw [← hAe]; exact Or.inr h
  have hl := lv_entry ([.int a1, .int a2, .int a3]) (n := 3) (Nat.le_of_ble_eq_true rfl)
  rw [lg_entry_eq]
  refine k_X10_in ⟨B.exec, B.bytes, hml, findClass_of_methodNamed B.named, atoms_spec (ws := wsX10_in) B.pre⟩ G hK hA _ _ _ _ h ?_ _ _ _ hP hD va_S.rf hl
  intro H locs ls pc hd hbo hP hD hS
  exact W.zret B.exec B.bytes B.returns (by rcases hbo with e | e <;> subst e <;> rfl) (fun t ht hW => ⟨⟨r, (), rfl, rfl, by rw [ht]; exact hP, hD⟩, hS.F ht⟩) hS.2.2 hd B.notSynchronized
set_option maxRecDepth 20000 in
theorem wd_X10_isLine_1 : Cond.fieldLink RX10 7 "PermanentDeskModel" "z" "[I" ∈ wsX10_isLine := List.mem_of_getElem? (i := 1) (by decide +kernel)
set_option maxRecDepth 20000 in
theorem wi_X10_isLine_X10 : ∀ w ∈ u_ws RX10 TX10 21, w ∈ wsX10_isLine := by decide +kernel
def f_X10_isLine (t_z : Nat → Int32) (a1 : Int32) : Option Int32 :=
  gd (okI (49 : Int32) 50) (
  (f_X10_in a1 (0 : Int32) ((t_z (49 : Int32).toNatClampNeg) - (1 : Int32))).bind (fun r_2 =>
  gd (r_2 = 0 ∨ r_2 = 1) (
  some r_2)))
set_option maxHeartbeats 4000000 in
set_option maxRecDepth 100000 in
theorem k_X10_isLine {p : Program} {l : Launch} {e : Env} {s : State} {m : MethodId} {args : Array Value} {below : List Frame} {meth : Method} {c : Code} {Q : State → Prop} {A0 : Nat → Prop} {H0 : Heap} (C : CallFix p m c cX10_isLine 2 s args wsX10_isLine RX10) (G : GT) (hK : gK G s) (hA : ∀ q : Nat, H0.size ≤ q → A0 q) (q_t q_t_z q_t_old q_t_past q_t_kept q_t_text q_t_order q_t_told q_t_rowsTaken q_t_columnsTaken q_t_ways q_t_scaled q_t_rowFactors q_t_columnFactors q_t_rest q_t_diagonals q_t_weights : Nat) (t_states : Int32) (t_isKept : Int32) (t_length : Int32) (t_spot : Int32) (t_toldRows : Int32) (t_z : Nat → Int32) (a1 : Int32) (r : Int32) (h : f_X10_isLine t_z a1 = some r) (KR : ∀ (H : Heap) (locs : List Loc) (ls : Array Slot) (pc : Nat), decode cX10_isLine pc = .ok (.ireturn, 1) → (r = 0 ∨ r = 1) → va_P G.1 vwCl [(q_t, .inr (9, [.ref q_t_z, .ref q_t_old, .ref q_t_past, .int t_states, .ref q_t_kept, .int t_isKept, .ref q_t_text, .int t_length, .ref q_t_order, .ref q_t_told, .int t_spot, .int t_toldRows, .ref q_t_rowsTaken, .ref q_t_columnsTaken, .ref q_t_ways, .ref q_t_scaled, .ref q_t_rowFactors, .ref q_t_columnFactors, .ref q_t_rest, .ref q_t_diagonals, .ref q_t_weights])), (q_t_z, .inl (G.2 0, 50, .inl t_z))] H → va_D A0 [(q_t, .inr (9, [.ref q_t_z, .ref q_t_old, .ref q_t_past, .int t_states, .ref q_t_kept, .int t_isKept, .ref q_t_text, .int t_length, .ref q_t_order, .ref q_t_told, .int t_spot, .int t_toldRows, .ref q_t_rowsTaken, .ref q_t_columnsTaken, .ref q_t_ways, .ref q_t_scaled, .ref q_t_rowFactors, .ref q_t_columnFactors, .ref q_t_rest, .ref q_t_diagonals, .ref q_t_weights])), (q_t_z, .inl (G.2 0, 50, .inl t_z))] → va_S A0 H0 H locs → W p l e ({ frames := 1, cells := 0, slots := 0, locals := 22 } : Room) s m args below meth c H locs 0 0 Q (F0 m pc ls [.int r])) : ∀ (H : Heap) (locs : List Loc) (ls : Array Slot), va_P G.1 vwCl [(q_t, .inr (9, [.ref q_t_z, .ref q_t_old, .ref q_t_past, .int t_states, .ref q_t_kept, .int t_isKept, .ref q_t_text, .int t_length, .ref q_t_order, .ref q_t_told, .int t_spot, .int t_toldRows, .ref q_t_rowsTaken, .ref q_t_columnsTaken, .ref q_t_ways, .ref q_t_scaled, .ref q_t_rowFactors, .ref q_t_columnFactors, .ref q_t_rest, .ref q_t_diagonals, .ref q_t_weights])), (q_t_z, .inl (G.2 0, 50, .inl t_z))] H → va_D A0 [(q_t, .inr (9, [.ref q_t_z, .ref q_t_old, .ref q_t_past, .int t_states, .ref q_t_kept, .int t_isKept, .ref q_t_text, .int t_length, .ref q_t_order, .ref q_t_told, .int t_spot, .int t_toldRows, .ref q_t_rowsTaken, .ref q_t_columnsTaken, .ref q_t_ways, .ref q_t_scaled, .ref q_t_rowFactors, .ref q_t_columnFactors, .ref q_t_rest, .ref q_t_diagonals, .ref q_t_weights])), (q_t_z, .inl (G.2 0, 50, .inl t_z))] → va_S A0 H0 H locs → lv_has ls 2 [(0, .ref q_t), (1, .int a1)] → W p l e ({ frames := 1, cells := 0, slots := 0, locals := 22 } : Room) s m args below meth c H locs 0 0 Q (F0 m 0 ls []) := by
  obtain ⟨hx, hb, hml, hown, hts⟩ := C
  intro H locs ls hP hD hS hl
  rw [f_X10_isLine] at h
  refine lv_iload_n hx hb dX10_isLine_0 rfl (lv_at hl 1 rfl) ?_
  refine lv_iconst (v := 0) hx hb dX10_isLine_1 (by decide) ?_
  refine lv_aload_n hx hb dX10_isLine_2 rfl (lv_at hl 0 rfl) ?_
  refine va_get (D := G.1) (ci := 9) (v := .ref q_t_z) (C := RX10) (T := TX10) (N := 21) hx hb hts wi_X10_isLine_X10 hown hK hP 0 rfl rfl 0 (by decide) (hts _ wd_X10_isLine_1) (fun _ h9 => h9) rfl dX10_isLine_3 ?_
  refine lv_bipush (v := 49) hx hb dX10_isLine_6 (by decide) ?_
  obtain ⟨g_1, h⟩ := gd_ok h
  refine va_iald (D := G.1) hx hb hK hP 1 0 rfl rfl g_1 dX10_isLine_8 ?_
  refine lv_iconst (v := 1) hx hb dX10_isLine_9 (by decide) ?_
  refine lv_isub hx hb dX10_isLine_10 ?_
  obtain ⟨r_2, hf_3, h⟩ := bd_ok h
  refine ck_Si (rest := []) (wn := [(q_t, .inr (9, [.ref q_t_z, .ref q_t_old, .ref q_t_past, .int t_states, .ref q_t_kept, .int t_isKept, .ref q_t_text, .int t_length, .ref q_t_order, .ref q_t_told, .int t_spot, .int t_toldRows, .ref q_t_rowsTaken, .ref q_t_columnsTaken, .ref q_t_ways, .ref q_t_scaled, .ref q_t_rowFactors, .ref q_t_columnFactors, .ref q_t_rest, .ref q_t_diagonals, .ref q_t_weights])), (q_t_z, .inl (G.2 0, 50, .inl t_z))]) ⟨hx, hb, hml, hown, hts⟩ hK hP hD hS hA [] [0, 1] [0, 1] (c_X10_in l G _ a1 (0 : Int32) ((t_z (49 : Int32).toNatClampNeg) - (1 : Int32)) _ hf_3) (cwS 3 hts gX10_isLine_X10_in rfl rfl rfl (by decide +kernel) ⟨Nat.le_of_ble_eq_true rfl, Nat.le_of_ble_eq_true rfl⟩) rfl rfl rfl rfl (by decide) rfl rfl rfl hl.1 rfl (Nat.le_of_ble_eq_true rfl) dX10_isLine_11 ⟨Nat.zero_le _, Nat.zero_le _⟩ (fun H locs hP hD hS => ?_)
  obtain ⟨g_4, h⟩ := gd_ok h
  obtain rfl := sm1 h
  exact KR H locs ls 14 dX10_isLine_14 g_4 hP hD hS
set_option maxHeartbeats 4000000 in
set_option maxRecDepth 100000 in
theorem c_X10_isLine (l : Launch) (G : GT) (q_t q_t_z q_t_old q_t_past q_t_kept q_t_text q_t_order q_t_told q_t_rowsTaken q_t_columnsTaken q_t_ways q_t_scaled q_t_rowFactors q_t_columnFactors q_t_rest q_t_diagonals q_t_weights : Nat) (sz : Nat) (t_states : Int32) (t_isKept : Int32) (t_length : Int32) (t_spot : Int32) (t_toldRows : Int32) (t_z : Nat → Int32) (a1 : Int32) (r : Int32) (h : f_X10_isLine t_z a1 = some r) : Met l yX10_isLine wsX10_isLine ({ frames := 1, cells := 0, slots := 0, locals := 22 } : Room) (va_Pc [.ref q_t, .int a1] (pcW G [(q_t, .inr (9, [.ref q_t_z, .ref q_t_old, .ref q_t_past, .int t_states, .ref q_t_kept, .int t_isKept, .ref q_t_text, .int t_length, .ref q_t_order, .ref q_t_told, .int t_spot, .int t_toldRows, .ref q_t_rowsTaken, .ref q_t_columnsTaken, .ref q_t_ways, .ref q_t_scaled, .ref q_t_rowFactors, .ref q_t_columnFactors, .ref q_t_rest, .ref q_t_diagonals, .ref q_t_weights])), (q_t_z, .inl (G.2 0, 50, .inl t_z))] sz)) (va_Qi (fun r9 (_ : Unit) => r9 = r) (fun _ t => atW G (va_A [(q_t, .inr (9, [.ref q_t_z, .ref q_t_old, .ref q_t_past, .int t_states, .ref q_t_kept, .int t_isKept, .ref q_t_text, .int t_length, .ref q_t_order, .ref q_t_told, .int t_spot, .int t_toldRows, .ref q_t_rowsTaken, .ref q_t_columnsTaken, .ref q_t_ways, .ref q_t_scaled, .ref q_t_rowFactors, .ref q_t_columnFactors, .ref q_t_rest, .ref q_t_diagonals, .ref q_t_weights])), (q_t_z, .inl (G.2 0, 50, .inl t_z))] sz) [(q_t, .inr (9, [.ref q_t_z, .ref q_t_old, .ref q_t_past, .int t_states, .ref q_t_kept, .int t_isKept, .ref q_t_text, .int t_length, .ref q_t_order, .ref q_t_told, .int t_spot, .int t_toldRows, .ref q_t_rowsTaken, .ref q_t_columnsTaken, .ref q_t_ways, .ref q_t_scaled, .ref q_t_rowFactors, .ref q_t_columnFactors, .ref q_t_rest, .ref q_t_diagonals, .ref q_t_weights])), (q_t_z, .inl (G.2 0, 50, .inl t_z))] t) (va_A [(q_t, .inr (9, [.ref q_t_z, .ref q_t_old, .ref q_t_past, .int t_states, .ref q_t_kept, .int t_isKept, .ref q_t_text, .int t_length, .ref q_t_order, .ref q_t_told, .int t_spot, .int t_toldRows, .ref q_t_rowsTaken, .ref q_t_columnsTaken, .ref q_t_ways, .ref q_t_scaled, .ref q_t_rowFactors, .ref q_t_columnFactors, .ref q_t_rest, .ref q_t_diagonals, .ref q_t_weights])), (q_t_z, .inl (G.2 0, 50, .inl t_z))] sz)) 0 0 (va_A [(q_t, .inr (9, [.ref q_t_z, .ref q_t_old, .ref q_t_past, .int t_states, .ref q_t_kept, .int t_isKept, .ref q_t_text, .int t_length, .ref q_t_order, .ref q_t_told, .int t_spot, .int t_toldRows, .ref q_t_rowsTaken, .ref q_t_columnsTaken, .ref q_t_ways, .ref q_t_scaled, .ref q_t_rowFactors, .ref q_t_columnFactors, .ref q_t_rest, .ref q_t_diagonals, .ref q_t_weights])), (q_t_z, .inl (G.2 0, 50, .inl t_z))] sz) := by
  refine Met.ofW (cc := cX10_isLine) (maxL := 2) (ret := (some .boolean)) (by decide) rfl ?_
  intro p e s m args below meth c s₁ B hml hv
  obtain ⟨rfl, hsz, hP, hK, hD0⟩ := hv
  subst hsz
  have hD := hD0.self (sz := s.heap.size)
  generalize hAe : va_A [(q_t, .inr (9, [.ref q_t_z, .ref q_t_old, .ref q_t_past, .int t_states, .ref q_t_kept, .int t_isKept, .ref q_t_text, .int t_length, .ref q_t_order, .ref q_t_told, .int t_spot, .int t_toldRows, .ref q_t_rowsTaken, .ref q_t_columnsTaken, .ref q_t_ways, .ref q_t_scaled, .ref q_t_rowFactors, .ref q_t_columnFactors, .ref q_t_rest, .ref q_t_diagonals, .ref q_t_weights])), (q_t_z, .inl (G.2 0, 50, .inl t_z))] s.heap.size = A at hD ⊢
  have hA : ∀ q : Nat, s.heap.size ≤ q → A q := fun q h => by rw [← hAe]; exact Or.inr h
  have hl := lv_entry ([.ref q_t, .int a1]) (n := 2) (Nat.le_of_ble_eq_true rfl)
  rw [lg_entry_eq]
  refine k_X10_isLine ⟨B.exec, B.bytes, hml, findClass_of_methodNamed B.named, atoms_spec (ws := wsX10_isLine) B.pre⟩ G hK hA q_t q_t_z q_t_old q_t_past q_t_kept q_t_text q_t_order q_t_told q_t_rowsTaken q_t_columnsTaken q_t_ways q_t_scaled q_t_rowFactors q_t_columnFactors q_t_rest q_t_diagonals q_t_weights _ _ _ _ _ _ _ _ h ?_ _ _ _ hP hD va_S.rf hl
  intro H locs ls pc hd hbo hP hD hS
  exact W.zret B.exec B.bytes B.returns (by rcases hbo with e | e <;> subst e <;> rfl) (fun t ht hW => ⟨⟨r, (), rfl, rfl, by rw [ht]; exact hP, hD⟩, hS.F ht⟩) hS.2.2 hd B.notSynchronized
set_option maxRecDepth 20000 in
theorem wd_X10_at_1 : Cond.fieldLink RX10 7 "PermanentDeskModel" "z" "[I" ∈ wsX10_at := List.mem_of_getElem? (i := 1) (by decide +kernel)
set_option maxRecDepth 20000 in
theorem wi_X10_at_X10 : ∀ w ∈ u_ws RX10 TX10 21, w ∈ wsX10_at := by decide +kernel
def f_X10_at (t_z : Nat → Int32) (a1 : Int32) (a2 : Int32) : Option Int32 :=
  gd (okI (((7 : Int32) * a1) + a2) 50) (
  some (t_z (((7 : Int32) * a1) + a2).toNatClampNeg))
set_option maxHeartbeats 4000000 in
set_option maxRecDepth 100000 in
theorem k_X10_at {p : Program} {l : Launch} {e : Env} {s : State} {m : MethodId} {args : Array Value} {below : List Frame} {meth : Method} {c : Code} {Q : State → Prop} {A0 : Nat → Prop} {H0 : Heap} (C : CallFix p m c cX10_at 3 s args wsX10_at RX10) (G : GT) (hK : gK G s) (hA : ∀ q : Nat, H0.size ≤ q → A0 q) (q_t q_t_z q_t_old q_t_past q_t_kept q_t_text q_t_order q_t_told q_t_rowsTaken q_t_columnsTaken q_t_ways q_t_scaled q_t_rowFactors q_t_columnFactors q_t_rest q_t_diagonals q_t_weights : Nat) (t_states : Int32) (t_isKept : Int32) (t_length : Int32) (t_spot : Int32) (t_toldRows : Int32) (t_z : Nat → Int32) (a1 : Int32) (a2 : Int32) (r : Int32) (h : f_X10_at t_z a1 a2 = some r) (KR : ∀ (H : Heap) (locs : List Loc) (ls : Array Slot) (pc : Nat), decode cX10_at pc = .ok (.ireturn, 1) → va_P G.1 vwCl [(q_t, .inr (9, [.ref q_t_z, .ref q_t_old, .ref q_t_past, .int t_states, .ref q_t_kept, .int t_isKept, .ref q_t_text, .int t_length, .ref q_t_order, .ref q_t_told, .int t_spot, .int t_toldRows, .ref q_t_rowsTaken, .ref q_t_columnsTaken, .ref q_t_ways, .ref q_t_scaled, .ref q_t_rowFactors, .ref q_t_columnFactors, .ref q_t_rest, .ref q_t_diagonals, .ref q_t_weights])), (q_t_z, .inl (G.2 0, 50, .inl t_z))] H → va_D A0 [(q_t, .inr (9, [.ref q_t_z, .ref q_t_old, .ref q_t_past, .int t_states, .ref q_t_kept, .int t_isKept, .ref q_t_text, .int t_length, .ref q_t_order, .ref q_t_told, .int t_spot, .int t_toldRows, .ref q_t_rowsTaken, .ref q_t_columnsTaken, .ref q_t_ways, .ref q_t_scaled, .ref q_t_rowFactors, .ref q_t_columnFactors, .ref q_t_rest, .ref q_t_diagonals, .ref q_t_weights])), (q_t_z, .inl (G.2 0, 50, .inl t_z))] → va_S A0 H0 H locs → W p l e ({ frames := 0, cells := 0, slots := 0, locals := 0 } : Room) s m args below meth c H locs 0 0 Q (F0 m pc ls [.int r])) : ∀ (H : Heap) (locs : List Loc) (ls : Array Slot), va_P G.1 vwCl [(q_t, .inr (9, [.ref q_t_z, .ref q_t_old, .ref q_t_past, .int t_states, .ref q_t_kept, .int t_isKept, .ref q_t_text, .int t_length, .ref q_t_order, .ref q_t_told, .int t_spot, .int t_toldRows, .ref q_t_rowsTaken, .ref q_t_columnsTaken, .ref q_t_ways, .ref q_t_scaled, .ref q_t_rowFactors, .ref q_t_columnFactors, .ref q_t_rest, .ref q_t_diagonals, .ref q_t_weights])), (q_t_z, .inl (G.2 0, 50, .inl t_z))] H → va_D A0 [(q_t, .inr (9, [.ref q_t_z, .ref q_t_old, .ref q_t_past, .int t_states, .ref q_t_kept, .int t_isKept, .ref q_t_text, .int t_length, .ref q_t_order, .ref q_t_told, .int t_spot, .int t_toldRows, .ref q_t_rowsTaken, .ref q_t_columnsTaken, .ref q_t_ways, .ref q_t_scaled, .ref q_t_rowFactors, .ref q_t_columnFactors, .ref q_t_rest, .ref q_t_diagonals, .ref q_t_weights])), (q_t_z, .inl (G.2 0, 50, .inl t_z))] → va_S A0 H0 H locs → lv_has ls 3 [(0, .ref q_t), (1, .int a1), (2, .int a2)] → W p l e ({ frames := 0, cells := 0, slots := 0, locals := 0 } : Room) s m args below meth c H locs 0 0 Q (F0 m 0 ls []) := by
  obtain ⟨hx, hb, hml, hown, hts⟩ := C
  intro H locs ls hP hD hS hl
  rw [f_X10_at] at h
  refine lv_aload_n hx hb dX10_at_0 rfl (lv_at hl 0 rfl) ?_
  refine va_get (D := G.1) (ci := 9) (v := .ref q_t_z) (C := RX10) (T := TX10) (N := 21) hx hb hts wi_X10_at_X10 hown hK hP 0 rfl rfl 0 (by decide) (hts _ wd_X10_at_1) (fun _ h9 => h9) rfl dX10_at_1 ?_
  refine lv_bipush (v := 7) hx hb dX10_at_4 (by decide) ?_
  refine lv_iload_n hx hb dX10_at_6 rfl (lv_at hl 1 rfl) ?_
  refine lv_imul hx hb dX10_at_7 ?_
  refine lv_iload_n hx hb dX10_at_8 rfl (lv_at hl 2 rfl) ?_
  refine lv_iadd hx hb dX10_at_9 ?_
  obtain ⟨g_1, h⟩ := gd_ok h
  refine va_iald (D := G.1) hx hb hK hP 1 0 rfl rfl g_1 dX10_at_10 ?_
  obtain rfl := sm1 h
  exact KR H locs ls 11 dX10_at_11 hP hD hS
set_option maxHeartbeats 4000000 in
set_option maxRecDepth 100000 in
theorem c_X10_at (l : Launch) (G : GT) (q_t q_t_z q_t_old q_t_past q_t_kept q_t_text q_t_order q_t_told q_t_rowsTaken q_t_columnsTaken q_t_ways q_t_scaled q_t_rowFactors q_t_columnFactors q_t_rest q_t_diagonals q_t_weights : Nat) (sz : Nat) (t_states : Int32) (t_isKept : Int32) (t_length : Int32) (t_spot : Int32) (t_toldRows : Int32) (t_z : Nat → Int32) (a1 : Int32) (a2 : Int32) (r : Int32) (h : f_X10_at t_z a1 a2 = some r) : Met l yX10_at wsX10_at ({ frames := 0, cells := 0, slots := 0, locals := 0 } : Room) (va_Pc [.ref q_t, .int a1, .int a2] (pcW G [(q_t, .inr (9, [.ref q_t_z, .ref q_t_old, .ref q_t_past, .int t_states, .ref q_t_kept, .int t_isKept, .ref q_t_text, .int t_length, .ref q_t_order, .ref q_t_told, .int t_spot, .int t_toldRows, .ref q_t_rowsTaken, .ref q_t_columnsTaken, .ref q_t_ways, .ref q_t_scaled, .ref q_t_rowFactors, .ref q_t_columnFactors, .ref q_t_rest, .ref q_t_diagonals, .ref q_t_weights])), (q_t_z, .inl (G.2 0, 50, .inl t_z))] sz)) (va_Qi (fun r9 (_ : Unit) => r9 = r) (fun _ t => atW G (va_A [(q_t, .inr (9, [.ref q_t_z, .ref q_t_old, .ref q_t_past, .int t_states, .ref q_t_kept, .int t_isKept, .ref q_t_text, .int t_length, .ref q_t_order, .ref q_t_told, .int t_spot, .int t_toldRows, .ref q_t_rowsTaken, .ref q_t_columnsTaken, .ref q_t_ways, .ref q_t_scaled, .ref q_t_rowFactors, .ref q_t_columnFactors, .ref q_t_rest, .ref q_t_diagonals, .ref q_t_weights])), (q_t_z, .inl (G.2 0, 50, .inl t_z))] sz) [(q_t, .inr (9, [.ref q_t_z, .ref q_t_old, .ref q_t_past, .int t_states, .ref q_t_kept, .int t_isKept, .ref q_t_text, .int t_length, .ref q_t_order, .ref q_t_told, .int t_spot, .int t_toldRows, .ref q_t_rowsTaken, .ref q_t_columnsTaken, .ref q_t_ways, .ref q_t_scaled, .ref q_t_rowFactors, .ref q_t_columnFactors, .ref q_t_rest, .ref q_t_diagonals, .ref q_t_weights])), (q_t_z, .inl (G.2 0, 50, .inl t_z))] t) (va_A [(q_t, .inr (9, [.ref q_t_z, .ref q_t_old, .ref q_t_past, .int t_states, .ref q_t_kept, .int t_isKept, .ref q_t_text, .int t_length, .ref q_t_order, .ref q_t_told, .int t_spot, .int t_toldRows, .ref q_t_rowsTaken, .ref q_t_columnsTaken, .ref q_t_ways, .ref q_t_scaled, .ref q_t_rowFactors, .ref q_t_columnFactors, .ref q_t_rest, .ref q_t_diagonals, .ref q_t_weights])), (q_t_z, .inl (G.2 0, 50, .inl t_z))] sz)) 0 0 (va_A [(q_t, .inr (9, [.ref q_t_z, .ref q_t_old, .ref q_t_past, .int t_states, .ref q_t_kept, .int t_isKept, .ref q_t_text, .int t_length, .ref q_t_order, .ref q_t_told, .int t_spot, .int t_toldRows, .ref q_t_rowsTaken, .ref q_t_columnsTaken, .ref q_t_ways, .ref q_t_scaled, .ref q_t_rowFactors, .ref q_t_columnFactors, .ref q_t_rest, .ref q_t_diagonals, .ref q_t_weights])), (q_t_z, .inl (G.2 0, 50, .inl t_z))] sz) := by
  refine Met.ofW (cc := cX10_at) (maxL := 3) (ret := (some .int)) (by decide) rfl ?_
  intro p e s m args below meth c s₁ B hml hv
  obtain ⟨rfl, hsz, hP, hK, hD0⟩ := hv
  subst hsz
  have hD := hD0.self (sz := s.heap.size)
  generalize hAe : va_A [(q_t, .inr (9, [.ref q_t_z, .ref q_t_old, .ref q_t_past, .int t_states, .ref q_t_kept, .int t_isKept, .ref q_t_text, .int t_length, .ref q_t_order, .ref q_t_told, .int t_spot, .int t_toldRows, .ref q_t_rowsTaken, .ref q_t_columnsTaken, .ref q_t_ways, .ref q_t_scaled, .ref q_t_rowFactors, .ref q_t_columnFactors, .ref q_t_rest, .ref q_t_diagonals, .ref q_t_weights])), (q_t_z, .inl (G.2 0, 50, .inl t_z))] s.heap.size = A at hD ⊢
  have hA : ∀ q : Nat, s.heap.size ≤ q → A q := fun q h => by rw [← hAe]; exact Or.inr h
  have hl := lv_entry ([.ref q_t, .int a1, .int a2]) (n := 3) (Nat.le_of_ble_eq_true rfl)
  rw [lg_entry_eq]
  refine k_X10_at ⟨B.exec, B.bytes, hml, findClass_of_methodNamed B.named, atoms_spec (ws := wsX10_at) B.pre⟩ G hK hA q_t q_t_z q_t_old q_t_past q_t_kept q_t_text q_t_order q_t_told q_t_rowsTaken q_t_columnsTaken q_t_ways q_t_scaled q_t_rowFactors q_t_columnFactors q_t_rest q_t_diagonals q_t_weights _ _ _ _ _ _ _ _ _ h ?_ _ _ _ hP hD va_S.rf hl
  intro H locs ls pc hd hP hD hS
  exact W.iret B.exec B.bytes B.returns (fun t ht hW => ⟨⟨r, (), rfl, rfl, by rw [ht]; exact hP, hD⟩, hS.F ht⟩) hS.2.2 hd B.notSynchronized
def f_X10_copyRow_L1 (n_a1 : Nat) (n_a3 : Nat) (x1 : Int32) (x3 : Int32) (x4 : Int32) (a1 : Nat → Int32) : (Int32 × (Nat → Int32)) → Option ((Int32 × (Nat → Int32)) ⊕ (Nat → Int32))
  | (x5, a3) =>
    if x4 ≤ x5 then
      some (.inr a3)
    else
      gd (okI (x1 + x5) n_a1) (
      gd (okI (x3 + x5) n_a3) (
      pl ((upd a3 (x3 + x5).toNatClampNeg (a1 (x1 + x5).toNatClampNeg)) : Nat → Int32) (fun a3_4 =>
      pl ((x5 + (1 : Int32)) : Int32) (fun x5_5 =>
      some (.inl (x5_5, a3_4))))))
def f_X10_copyRow (n_a1 : Nat) (n_a3 : Nat) (a1 : Nat → Int32) (a3 : Nat → Int32) (a2 : Int32) (a4 : Int32) (a5 : Int32) : Option (Nat → Int32) :=
  (lpN (f_X10_copyRow_L1 n_a1 n_a3 a2 a4 a5 a1) FU ((0 : Int32), a3)).bind (fun a3_6 =>
  some a3_6)
set_option maxHeartbeats 4000000 in
set_option maxRecDepth 100000 in
theorem l_X10_copyRow_1 {p : Program} {l : Launch} {e : Env} {s : State} {m : MethodId} {args : Array Value} {below : List Frame} {meth : Method} {c : Code} {Q : State → Prop} {A0 : Nat → Prop} {H0 : Heap} (C : CallFix p m c cX10_copyRow 6 s args wsX10_copyRow RX10) (G : GT) (hK : gK G s) (hA : ∀ q : Nat, H0.size ≤ q → A0 q) (q_a1 q_a3 : Nat) (n_a1 : Nat) (n_a3 : Nat) (x1 : Int32) (x3 : Int32) (x4 : Int32) (a1 : Nat → Int32) (E_a3 : Nat → Int32) (K : ∀ (H : Heap) (locs : List Loc) (ls : Array Slot), va_P G.1 vwCl [(q_a1, .inl (G.2 0, n_a1, .inl a1)), (q_a3, .inl (G.2 0, n_a3, .inl E_a3))] H → va_D A0 [(q_a1, .inl (G.2 0, n_a1, .inl a1)), (q_a3, .inl (G.2 0, n_a3, .inl E_a3))] → va_S A0 H0 H locs → lv_has ls 6 [] → W p l e ({ frames := 0, cells := 0, slots := 0, locals := 0 } : Room) s m args below meth c H locs 0 0 Q (F0 m 28 ls [])) : ∀ (n : Nat) (x5 : Int32) (a3 : Nat → Int32), lpN (f_X10_copyRow_L1 n_a1 n_a3 x1 x3 x4 a1) n (x5, a3) = some E_a3 → ∀ (H : Heap) (locs : List Loc) (ls : Array Slot), va_P G.1 vwCl [(q_a1, .inl (G.2 0, n_a1, .inl a1)), (q_a3, .inl (G.2 0, n_a3, .inl a3))] H → va_D A0 [(q_a1, .inl (G.2 0, n_a1, .inl a1)), (q_a3, .inl (G.2 0, n_a3, .inl a3))] → va_S A0 H0 H locs → lv_has ls 6 [(0, .ref q_a1), (1, .int x1), (2, .ref q_a3), (3, .int x3), (4, .int x4), (5, .int x5)] → W p l e ({ frames := 0, cells := 0, slots := 0, locals := 0 } : Room) s m args below meth c H locs 0 0 Q (F0 m 3 ls []) := by
  obtain ⟨hx, hb, hml, hown, hts⟩ := C
  intro n
  induction n with
  | zero => intro x5 a3 h; exact absurd h (fun h => lp_0 h)
  | succ n ih =>
    intro x5 a3 h H locs ls hP hD hS hl
    obtain ⟨y, h, hk⟩ := lp_s h
    rw [f_X10_copyRow_L1] at h
    refine lv_iload hx hb dX10_copyRow_3 (lv_at hl 5 rfl) ?_
    refine lv_iload hx hb dX10_copyRow_5 (lv_at hl 4 rfl) ?_
    refine lv_icmp_ge (tgt := 28) hx hb dX10_copyRow_7 (by decide) (fun c_1 => ?_) (fun c_1 => ?_)
    · replace h := it_t h c_1
      obtain rfl := sm1 h
      obtain rfl := sm1 hk
      exact K H locs ls hP hD hS (lv_sub hl [] rfl)
    · replace h := it_f h c_1
      refine lv_aload_n hx hb dX10_copyRow_10 rfl (lv_at hl 2 rfl) ?_
      refine lv_iload_n hx hb dX10_copyRow_11 rfl (lv_at hl 3 rfl) ?_
      refine lv_iload hx hb dX10_copyRow_12 (lv_at hl 5 rfl) ?_
      refine lv_iadd hx hb dX10_copyRow_14 ?_
      refine lv_aload_n hx hb dX10_copyRow_15 rfl (lv_at hl 0 rfl) ?_
      refine lv_iload_n hx hb dX10_copyRow_16 rfl (lv_at hl 1 rfl) ?_
      refine lv_iload hx hb dX10_copyRow_17 (lv_at hl 5 rfl) ?_
      refine lv_iadd hx hb dX10_copyRow_19 ?_
      obtain ⟨g_2, h⟩ := gd_ok h
      refine va_iald (D := G.1) hx hb hK hP 0 0 rfl rfl g_2 dX10_copyRow_20 ?_
      obtain ⟨g_3, h⟩ := gd_ok h
      obtain ⟨a3_4, ea3_4, h⟩ := pl_ok h
      refine st_i (D := G.1) (wn := [(q_a1, .inl (G.2 0, n_a1, .inl a1)), (q_a3, .inl (G.2 0, n_a3, .inl a3_4))]) hx hb hK hP hD hS 1 0 rfl rfl g_3 dX10_copyRow_21 ea3_4 rfl (fun H locs hP hD hS => ?_)
      obtain ⟨x5_5, ex5_5, h⟩ := pl_ok h
      refine lv_iinc (v := x5_5) (lv' := [(5, .int x5_5), (0, .ref q_a1), (1, .int x1), (2, .ref q_a3), (3, .int x3), (4, .int x4)]) hx hb dX10_copyRow_22 hl (k := 5) rfl (by rw [ex5_5]; rfl) (by decide) rfl (fun ls hl => ?_)
      refine lv_goto (tgt := 3) hx hb dX10_copyRow_25 (by decide) ?_
      obtain rfl := sm1 h
      exact ih x5_5 a3_4 hk H locs ls hP hD hS (lv_sub hl [1, 2, 3, 4, 5, 0] rfl)
set_option maxHeartbeats 4000000 in
set_option maxRecDepth 100000 in
theorem k_X10_copyRow {p : Program} {l : Launch} {e : Env} {s : State} {m : MethodId} {args : Array Value} {below : List Frame} {meth : Method} {c : Code} {Q : State → Prop} {A0 : Nat → Prop} {H0 : Heap} (C : CallFix p m c cX10_copyRow 6 s args wsX10_copyRow RX10) (G : GT) (hK : gK G s) (hA : ∀ q : Nat, H0.size ≤ q → A0 q) (q_a1 q_a3 : Nat) (n_a1 : Nat) (n_a3 : Nat) (a1 : Nat → Int32) (a3 : Nat → Int32) (a2 : Int32) (a4 : Int32) (a5 : Int32) (o_a3 : Nat → Int32) (h : f_X10_copyRow n_a1 n_a3 a1 a3 a2 a4 a5 = some o_a3) (KR : ∀ (H : Heap) (locs : List Loc) (ls : Array Slot) (pc : Nat), decode cX10_copyRow pc = .ok (.return_, 1) → va_P G.1 vwCl [(q_a1, .inl (G.2 0, n_a1, .inl a1)), (q_a3, .inl (G.2 0, n_a3, .inl o_a3))] H → va_D A0 [(q_a1, .inl (G.2 0, n_a1, .inl a1)), (q_a3, .inl (G.2 0, n_a3, .inl o_a3))] → va_S A0 H0 H locs → W p l e ({ frames := 0, cells := 0, slots := 0, locals := 0 } : Room) s m args below meth c H locs 0 0 Q (F0 m pc ls [])) : ∀ (H : Heap) (locs : List Loc) (ls : Array Slot), va_P G.1 vwCl [(q_a1, .inl (G.2 0, n_a1, .inl a1)), (q_a3, .inl (G.2 0, n_a3, .inl a3))] H → va_D A0 [(q_a1, .inl (G.2 0, n_a1, .inl a1)), (q_a3, .inl (G.2 0, n_a3, .inl a3))] → va_S A0 H0 H locs → lv_has ls 6 [(0, .ref q_a1), (1, .int a2), (2, .ref q_a3), (3, .int a4), (4, .int a5)] → W p l e ({ frames := 0, cells := 0, slots := 0, locals := 0 } : Room) s m args below meth c H locs 0 0 Q (F0 m 0 ls []) := by
  obtain ⟨hx, hb, hml, hown, hts⟩ := C
  intro H locs ls hP hD hS hl
  rw [f_X10_copyRow] at h
  refine lv_iconst (v := 0) hx hb dX10_copyRow_0 (by decide) ?_
  refine lv_istore (lv' := [(5, .int (0 : Int32)), (0, .ref q_a1), (1, .int a2), (2, .ref q_a3), (3, .int a4), (4, .int a5)]) hx hb dX10_copyRow_1 hl (by decide) rfl (fun ls hl => ?_)
  obtain ⟨a3_6, hz_8, h⟩ := bd_ok h
  refine l_X10_copyRow_1 ⟨hx, hb, hml, hown, hts⟩ G hK hA q_a1 q_a3 n_a1 n_a3 a2 a4 a5 a1 a3_6 ?_ FU (0 : Int32) a3 hz_8 H locs ls hP hD hS (lv_sub hl [1, 2, 3, 4, 5, 0] rfl)
  intro H locs ls hP hD hS hl
  obtain rfl := sm1 h
  exact KR H locs ls 28 dX10_copyRow_28 hP hD hS
set_option maxHeartbeats 4000000 in
set_option maxRecDepth 100000 in
theorem c_X10_copyRow (l : Launch) (G : GT) (q_a1 q_a3 : Nat) (sz : Nat) (n_a1 : Nat) (n_a3 : Nat) (a1 : Nat → Int32) (a3 : Nat → Int32) (a2 : Int32) (a4 : Int32) (a5 : Int32) (o_a3 : Nat → Int32) (h : f_X10_copyRow n_a1 n_a3 a1 a3 a2 a4 a5 = some o_a3) : Met l yX10_copyRow wsX10_copyRow ({ frames := 0, cells := 0, slots := 0, locals := 0 } : Room) (va_Pc [.ref q_a1, .int a2, .ref q_a3, .int a4, .int a5] (pcW G [(q_a1, .inl (G.2 0, n_a1, .inl a1)), (q_a3, .inl (G.2 0, n_a3, .inl a3))] sz)) (va_Qv (fun (_ : Unit) => True) (fun _ t => atW G (va_A [(q_a1, .inl (G.2 0, n_a1, .inl a1)), (q_a3, .inl (G.2 0, n_a3, .inl a3))] sz) [(q_a1, .inl (G.2 0, n_a1, .inl a1)), (q_a3, .inl (G.2 0, n_a3, .inl o_a3))] t) (va_A [(q_a1, .inl (G.2 0, n_a1, .inl a1)), (q_a3, .inl (G.2 0, n_a3, .inl a3))] sz)) 0 0 (va_A [(q_a1, .inl (G.2 0, n_a1, .inl a1)), (q_a3, .inl (G.2 0, n_a3, .inl a3))] sz) := by
  refine Met.ofW (cc := cX10_copyRow) (maxL := 6) (ret := none) (by decide) rfl ?_
  intro p e s m args below meth c s₁ B hml hv
  obtain ⟨rfl, hsz, hP, hK, hD0⟩ := hv
  subst hsz
  have hD := hD0.self (sz := s.heap.size)
  generalize hAe : va_A [(q_a1, .inl (G.2 0, n_a1, .inl a1)), (q_a3, .inl (G.2 0, n_a3, .inl a3))] s.heap.size = A at hD ⊢
  have hA : ∀ q : Nat, s.heap.size ≤ q → A q := fun q h => by rw [← hAe]; exact Or.inr h
  have hl := lv_entry ([.ref q_a1, .int a2, .ref q_a3, .int a4, .int a5]) (n := 6) (Nat.le_of_ble_eq_true rfl)
  rw [lg_entry_eq]
  refine k_X10_copyRow ⟨B.exec, B.bytes, hml, findClass_of_methodNamed B.named, atoms_spec (ws := wsX10_copyRow) B.pre⟩ G hK hA q_a1 q_a3 _ _ _ _ _ _ _ _ h ?_ _ _ _ hP hD va_S.rf hl
  intro H locs ls pc hd hP hD hS
  exact W.vret B.exec B.bytes B.returns (fun t ht hW => ⟨⟨(), rfl, trivial, by rw [ht]; exact hP, hD⟩, hS.F ht⟩) hS.2.2 hd B.notSynchronized
def f_X10_copyRow__a3_a1_L1 (n_a1 : Nat) (x1 : Int32) (x3 : Int32) (x4 : Int32) : (Int32 × (Nat → Int32)) → Option ((Int32 × (Nat → Int32)) ⊕ (Nat → Int32))
  | (x5, a1) =>
    if x4 ≤ x5 then
      some (.inr a1)
    else
      gd (okI (x1 + x5) n_a1) (
      gd (okI (x3 + x5) n_a1) (
      pl ((upd a1 (x3 + x5).toNatClampNeg (a1 (x1 + x5).toNatClampNeg)) : Nat → Int32) (fun a1_4 =>
      pl ((x5 + (1 : Int32)) : Int32) (fun x5_5 =>
      some (.inl (x5_5, a1_4))))))
def f_X10_copyRow__a3_a1 (n_a1 : Nat) (a1 : Nat → Int32) (a2 : Int32) (a4 : Int32) (a5 : Int32) : Option (Nat → Int32) :=
  (lpN (f_X10_copyRow__a3_a1_L1 n_a1 a2 a4 a5) FU ((0 : Int32), a1)).bind (fun a1_6 =>
  some a1_6)
set_option maxHeartbeats 4000000 in
set_option maxRecDepth 100000 in
theorem l_X10_copyRow__a3_a1_1 {p : Program} {l : Launch} {e : Env} {s : State} {m : MethodId} {args : Array Value} {below : List Frame} {meth : Method} {c : Code} {Q : State → Prop} {A0 : Nat → Prop} {H0 : Heap} (C : CallFix p m c cX10_copyRow 6 s args wsX10_copyRow RX10) (G : GT) (hK : gK G s) (hA : ∀ q : Nat, H0.size ≤ q → A0 q) (q_a1 : Nat) (n_a1 : Nat) (x1 : Int32) (x3 : Int32) (x4 : Int32) (E_a1 : Nat → Int32) (K : ∀ (H : Heap) (locs : List Loc) (ls : Array Slot), va_P G.1 vwCl [(q_a1, .inl (G.2 0, n_a1, .inl E_a1))] H → va_D A0 [(q_a1, .inl (G.2 0, n_a1, .inl E_a1))] → va_S A0 H0 H locs → lv_has ls 6 [] → W p l e ({ frames := 0, cells := 0, slots := 0, locals := 0 } : Room) s m args below meth c H locs 0 0 Q (F0 m 28 ls [])) : ∀ (n : Nat) (x5 : Int32) (a1 : Nat → Int32), lpN (f_X10_copyRow__a3_a1_L1 n_a1 x1 x3 x4) n (x5, a1) = some E_a1 → ∀ (H : Heap) (locs : List Loc) (ls : Array Slot), va_P G.1 vwCl [(q_a1, .inl (G.2 0, n_a1, .inl a1))] H → va_D A0 [(q_a1, .inl (G.2 0, n_a1, .inl a1))] → va_S A0 H0 H locs → lv_has ls 6 [(0, .ref q_a1), (1, .int x1), (2, .ref q_a1), (3, .int x3), (4, .int x4), (5, .int x5)] → W p l e ({ frames := 0, cells := 0, slots := 0, locals := 0 } : Room) s m args below meth c H locs 0 0 Q (F0 m 3 ls []) := by
  obtain ⟨hx, hb, hml, hown, hts⟩ := C
  intro n
  induction n with
  | zero => intro x5 a1 h; exact absurd h (fun h => lp_0 h)
  | succ n ih =>
    intro x5 a1 h H locs ls hP hD hS hl
    obtain ⟨y, h, hk⟩ := lp_s h
    rw [f_X10_copyRow__a3_a1_L1] at h
    refine lv_iload hx hb dX10_copyRow_3 (lv_at hl 5 rfl) ?_
    refine lv_iload hx hb dX10_copyRow_5 (lv_at hl 4 rfl) ?_
    refine lv_icmp_ge (tgt := 28) hx hb dX10_copyRow_7 (by decide) (fun c_1 => ?_) (fun c_1 => ?_)
    · replace h := it_t h c_1
      obtain rfl := sm1 h
      obtain rfl := sm1 hk
      exact K H locs ls hP hD hS (lv_sub hl [] rfl)
    · replace h := it_f h c_1
      refine lv_aload_n hx hb dX10_copyRow_10 rfl (lv_at hl 2 rfl) ?_
      refine lv_iload_n hx hb dX10_copyRow_11 rfl (lv_at hl 3 rfl) ?_
      refine lv_iload hx hb dX10_copyRow_12 (lv_at hl 5 rfl) ?_
      refine lv_iadd hx hb dX10_copyRow_14 ?_
      refine lv_aload_n hx hb dX10_copyRow_15 rfl (lv_at hl 0 rfl) ?_
      refine lv_iload_n hx hb dX10_copyRow_16 rfl (lv_at hl 1 rfl) ?_
      refine lv_iload hx hb dX10_copyRow_17 (lv_at hl 5 rfl) ?_
      refine lv_iadd hx hb dX10_copyRow_19 ?_
      obtain ⟨g_2, h⟩ := gd_ok h
      refine va_iald (D := G.1) hx hb hK hP 0 0 rfl rfl g_2 dX10_copyRow_20 ?_
      obtain ⟨g_3, h⟩ := gd_ok h
      obtain ⟨a1_4, ea1_4, h⟩ := pl_ok h
      refine st_i (D := G.1) (wn := [(q_a1, .inl (G.2 0, n_a1, .inl a1_4))]) hx hb hK hP hD hS 0 0 rfl rfl g_3 dX10_copyRow_21 ea1_4 rfl (fun H locs hP hD hS => ?_)
      obtain ⟨x5_5, ex5_5, h⟩ := pl_ok h
      refine lv_iinc (v := x5_5) (lv' := [(5, .int x5_5), (0, .ref q_a1), (1, .int x1), (2, .ref q_a1), (3, .int x3), (4, .int x4)]) hx hb dX10_copyRow_22 hl (k := 5) rfl (by rw [ex5_5]; rfl) (by decide) rfl (fun ls hl => ?_)
      refine lv_goto (tgt := 3) hx hb dX10_copyRow_25 (by decide) ?_
      obtain rfl := sm1 h
      exact ih x5_5 a1_4 hk H locs ls hP hD hS (lv_sub hl [1, 2, 3, 4, 5, 0] rfl)
set_option maxHeartbeats 4000000 in
set_option maxRecDepth 100000 in
theorem k_X10_copyRow__a3_a1 {p : Program} {l : Launch} {e : Env} {s : State} {m : MethodId} {args : Array Value} {below : List Frame} {meth : Method} {c : Code} {Q : State → Prop} {A0 : Nat → Prop} {H0 : Heap} (C : CallFix p m c cX10_copyRow 6 s args wsX10_copyRow RX10) (G : GT) (hK : gK G s) (hA : ∀ q : Nat, H0.size ≤ q → A0 q) (q_a1 : Nat) (n_a1 : Nat) (a1 : Nat → Int32) (a2 : Int32) (a4 : Int32) (a5 : Int32) (o_a1 : Nat → Int32) (h : f_X10_copyRow__a3_a1 n_a1 a1 a2 a4 a5 = some o_a1) (KR : ∀ (H : Heap) (locs : List Loc) (ls : Array Slot) (pc : Nat), decode cX10_copyRow pc = .ok (.return_, 1) → va_P G.1 vwCl [(q_a1, .inl (G.2 0, n_a1, .inl o_a1))] H → va_D A0 [(q_a1, .inl (G.2 0, n_a1, .inl o_a1))] → va_S A0 H0 H locs → W p l e ({ frames := 0, cells := 0, slots := 0, locals := 0 } : Room) s m args below meth c H locs 0 0 Q (F0 m pc ls [])) : ∀ (H : Heap) (locs : List Loc) (ls : Array Slot), va_P G.1 vwCl [(q_a1, .inl (G.2 0, n_a1, .inl a1))] H → va_D A0 [(q_a1, .inl (G.2 0, n_a1, .inl a1))] → va_S A0 H0 H locs → lv_has ls 6 [(0, .ref q_a1), (1, .int a2), (2, .ref q_a1), (3, .int a4), (4, .int a5)] → W p l e ({ frames := 0, cells := 0, slots := 0, locals := 0 } : Room) s m args below meth c H locs 0 0 Q (F0 m 0 ls []) := by
  obtain ⟨hx, hb, hml, hown, hts⟩ := C
  intro H locs ls hP hD hS hl
  rw [f_X10_copyRow__a3_a1] at h
  refine lv_iconst (v := 0) hx hb dX10_copyRow_0 (by decide) ?_
  refine lv_istore (lv' := [(5, .int (0 : Int32)), (0, .ref q_a1), (1, .int a2), (2, .ref q_a1), (3, .int a4), (4, .int a5)]) hx hb dX10_copyRow_1 hl (by decide) rfl (fun ls hl => ?_)
  obtain ⟨a1_6, hz_8, h⟩ := bd_ok h
  refine l_X10_copyRow__a3_a1_1 ⟨hx, hb, hml, hown, hts⟩ G hK hA q_a1 n_a1 a2 a4 a5 a1_6 ?_ FU (0 : Int32) a1 hz_8 H locs ls hP hD hS (lv_sub hl [1, 2, 3, 4, 5, 0] rfl)
  intro H locs ls hP hD hS hl
  obtain rfl := sm1 h
  exact KR H locs ls 28 dX10_copyRow_28 hP hD hS
set_option maxHeartbeats 4000000 in
set_option maxRecDepth 100000 in
theorem c_X10_copyRow__a3_a1 (l : Launch) (G : GT) (q_a1 : Nat) (sz : Nat) (n_a1 : Nat) (a1 : Nat → Int32) (a2 : Int32) (a4 : Int32) (a5 : Int32) (o_a1 : Nat → Int32) (h : f_X10_copyRow__a3_a1 n_a1 a1 a2 a4 a5 = some o_a1) : Met l yX10_copyRow wsX10_copyRow ({ frames := 0, cells := 0, slots := 0, locals := 0 } : Room) (va_Pc [.ref q_a1, .int a2, .ref q_a1, .int a4, .int a5] (pcW G [(q_a1, .inl (G.2 0, n_a1, .inl a1))] sz)) (va_Qv (fun (_ : Unit) => True) (fun _ t => atW G (va_A [(q_a1, .inl (G.2 0, n_a1, .inl a1))] sz) [(q_a1, .inl (G.2 0, n_a1, .inl o_a1))] t) (va_A [(q_a1, .inl (G.2 0, n_a1, .inl a1))] sz)) 0 0 (va_A [(q_a1, .inl (G.2 0, n_a1, .inl a1))] sz) := by
  refine Met.ofW (cc := cX10_copyRow) (maxL := 6) (ret := none) (by decide) rfl ?_
  intro p e s m args below meth c s₁ B hml hv
  obtain ⟨rfl, hsz, hP, hK, hD0⟩ := hv
  subst hsz
  have hD := hD0.self (sz := s.heap.size)
  generalize hAe : va_A [(q_a1, .inl (G.2 0, n_a1, .inl a1))] s.heap.size = A at hD ⊢
  have hA : ∀ q : Nat, s.heap.size ≤ q → A q := fun q h => by rw [← hAe]; exact Or.inr h
  have hl := lv_entry ([.ref q_a1, .int a2, .ref q_a1, .int a4, .int a5]) (n := 6) (Nat.le_of_ble_eq_true rfl)
  rw [lg_entry_eq]
  refine k_X10_copyRow__a3_a1 ⟨B.exec, B.bytes, hml, findClass_of_methodNamed B.named, atoms_spec (ws := wsX10_copyRow) B.pre⟩ G hK hA q_a1 _ _ _ _ _ _ h ?_ _ _ _ hP hD va_S.rf hl
  intro H locs ls pc hd hP hD hS
  exact W.vret B.exec B.bytes B.returns (fun t ht hW => ⟨⟨(), rfl, trivial, by rw [ht]; exact hP, hD⟩, hS.F ht⟩) hS.2.2 hd B.notSynchronized
set_option maxRecDepth 20000 in
theorem wd_X10_recordRow_1 : Cond.fieldLink RX10 63 "PermanentDeskModel" "states" "I" ∈ wsX10_recordRow := List.mem_of_getElem? (i := 1) (by decide +kernel)
set_option maxRecDepth 20000 in
theorem wi_X10_recordRow_X10 : ∀ w ∈ u_ws RX10 TX10 21, w ∈ wsX10_recordRow := by decide +kernel
set_option maxRecDepth 20000 in
theorem wd_X10_recordRow_2 : Cond.fieldLink RX10 16 "PermanentDeskModel" "past" "[I" ∈ wsX10_recordRow := List.mem_of_getElem? (i := 2) (by decide +kernel)
def f_X10_recordRow (n_a1 : Nat) (t_states : Int32) (t_past : Nat → Int32) (a1 : Nat → Int32) : Option (Int32 × (Nat → Int32)) :=
  Option.bind (
    if t_states = (4 : Int32) then
      (f_X10_copyRow__a3_a1 200 t_past (50 : Int32) (0 : Int32) (150 : Int32)).bind (fun t_past_4 =>
      pl ((t_states - (1 : Int32)) : Int32) (fun t_states_6 =>
      some (t_states_6, t_past_4)))
    else
      some (t_states, t_past)) (fun (t_states_2, t_past_3) =>
  (f_X10_copyRow n_a1 200 a1 t_past_3 (0 : Int32) ((50 : Int32) * t_states_2) (50 : Int32)).bind (fun t_past_7 =>
  pl ((t_states_2 + (1 : Int32)) : Int32) (fun t_states_9 =>
  some (t_states_9, t_past_7))))
set_option maxHeartbeats 4000000 in
set_option maxRecDepth 100000 in
theorem k_X10_recordRow {p : Program} {l : Launch} {e : Env} {s : State} {m : MethodId} {args : Array Value} {below : List Frame} {meth : Method} {c : Code} {Q : State → Prop} {A0 : Nat → Prop} {H0 : Heap} (C : CallFix p m c cX10_recordRow 2 s args wsX10_recordRow RX10) (G : GT) (hK : gK G s) (hA : ∀ q : Nat, H0.size ≤ q → A0 q) (q_t q_t_z q_t_old q_t_past q_t_kept q_t_text q_t_order q_t_told q_t_rowsTaken q_t_columnsTaken q_t_ways q_t_scaled q_t_rowFactors q_t_columnFactors q_t_rest q_t_diagonals q_t_weights q_a1 : Nat) (n_a1 : Nat) (t_states : Int32) (t_isKept : Int32) (t_length : Int32) (t_spot : Int32) (t_toldRows : Int32) (t_past : Nat → Int32) (a1 : Nat → Int32) (o_t_states : Int32) (o_t_past : Nat → Int32) (h : f_X10_recordRow n_a1 t_states t_past a1 = some (o_t_states, o_t_past)) (KR : ∀ (H : Heap) (locs : List Loc) (ls : Array Slot) (pc : Nat), decode cX10_recordRow pc = .ok (.return_, 1) → va_P G.1 vwCl [(q_t, .inr (9, [.ref q_t_z, .ref q_t_old, .ref q_t_past, .int o_t_states, .ref q_t_kept, .int t_isKept, .ref q_t_text, .int t_length, .ref q_t_order, .ref q_t_told, .int t_spot, .int t_toldRows, .ref q_t_rowsTaken, .ref q_t_columnsTaken, .ref q_t_ways, .ref q_t_scaled, .ref q_t_rowFactors, .ref q_t_columnFactors, .ref q_t_rest, .ref q_t_diagonals, .ref q_t_weights])), (q_t_past, .inl (G.2 0, 200, .inl o_t_past)), (q_a1, .inl (G.2 0, n_a1, .inl a1))] H → va_D A0 [(q_t, .inr (9, [.ref q_t_z, .ref q_t_old, .ref q_t_past, .int o_t_states, .ref q_t_kept, .int t_isKept, .ref q_t_text, .int t_length, .ref q_t_order, .ref q_t_told, .int t_spot, .int t_toldRows, .ref q_t_rowsTaken, .ref q_t_columnsTaken, .ref q_t_ways, .ref q_t_scaled, .ref q_t_rowFactors, .ref q_t_columnFactors, .ref q_t_rest, .ref q_t_diagonals, .ref q_t_weights])), (q_t_past, .inl (G.2 0, 200, .inl o_t_past)), (q_a1, .inl (G.2 0, n_a1, .inl a1))] → va_S A0 H0 H locs → W p l e ({ frames := 1, cells := 0, slots := 0, locals := 25 } : Room) s m args below meth c H locs 0 0 Q (F0 m pc ls [])) : ∀ (H : Heap) (locs : List Loc) (ls : Array Slot), va_P G.1 vwCl [(q_t, .inr (9, [.ref q_t_z, .ref q_t_old, .ref q_t_past, .int t_states, .ref q_t_kept, .int t_isKept, .ref q_t_text, .int t_length, .ref q_t_order, .ref q_t_told, .int t_spot, .int t_toldRows, .ref q_t_rowsTaken, .ref q_t_columnsTaken, .ref q_t_ways, .ref q_t_scaled, .ref q_t_rowFactors, .ref q_t_columnFactors, .ref q_t_rest, .ref q_t_diagonals, .ref q_t_weights])), (q_t_past, .inl (G.2 0, 200, .inl t_past)), (q_a1, .inl (G.2 0, n_a1, .inl a1))] H → va_D A0 [(q_t, .inr (9, [.ref q_t_z, .ref q_t_old, .ref q_t_past, .int t_states, .ref q_t_kept, .int t_isKept, .ref q_t_text, .int t_length, .ref q_t_order, .ref q_t_told, .int t_spot, .int t_toldRows, .ref q_t_rowsTaken, .ref q_t_columnsTaken, .ref q_t_ways, .ref q_t_scaled, .ref q_t_rowFactors, .ref q_t_columnFactors, .ref q_t_rest, .ref q_t_diagonals, .ref q_t_weights])), (q_t_past, .inl (G.2 0, 200, .inl t_past)), (q_a1, .inl (G.2 0, n_a1, .inl a1))] → va_S A0 H0 H locs → lv_has ls 2 [(0, .ref q_t), (1, .ref q_a1)] → W p l e ({ frames := 1, cells := 0, slots := 0, locals := 25 } : Room) s m args below meth c H locs 0 0 Q (F0 m 0 ls []) := by
  obtain ⟨hx, hb, hml, hown, hts⟩ := C
  intro H locs ls hP hD hS hl
  rw [f_X10_recordRow] at h
  refine lv_aload_n hx hb dX10_recordRow_0 rfl (lv_at hl 0 rfl) ?_
  refine va_get (D := G.1) (ci := 9) (v := .int t_states) (C := RX10) (T := TX10) (N := 21) hx hb hts wi_X10_recordRow_X10 hown hK hP 0 rfl rfl 3 (by decide) (hts _ wd_X10_recordRow_1) (fun _ h9 => h9) rfl dX10_recordRow_1 ?_
  refine lv_iconst (v := 4) hx hb dX10_recordRow_4 (by decide) ?_
  obtain ⟨⟨t_states_2, t_past_3⟩, hr, h⟩ := bd_ok h
  have J : ∀ (H : Heap) (locs : List Loc) (ls : Array Slot), va_P G.1 vwCl [(q_t, .inr (9, [.ref q_t_z, .ref q_t_old, .ref q_t_past, .int t_states_2, .ref q_t_kept, .int t_isKept, .ref q_t_text, .int t_length, .ref q_t_order, .ref q_t_told, .int t_spot, .int t_toldRows, .ref q_t_rowsTaken, .ref q_t_columnsTaken, .ref q_t_ways, .ref q_t_scaled, .ref q_t_rowFactors, .ref q_t_columnFactors, .ref q_t_rest, .ref q_t_diagonals, .ref q_t_weights])), (q_t_past, .inl (G.2 0, 200, .inl t_past_3)), (q_a1, .inl (G.2 0, n_a1, .inl a1))] H → va_D A0 [(q_t, .inr (9, [.ref q_t_z, .ref q_t_old, .ref q_t_past, .int t_states_2, .ref q_t_kept, .int t_isKept, .ref q_t_text, .int t_length, .ref q_t_order, .ref q_t_told, .int t_spot, .int t_toldRows, .ref q_t_rowsTaken, .ref q_t_columnsTaken, .ref q_t_ways, .ref q_t_scaled, .ref q_t_rowFactors, .ref q_t_columnFactors, .ref q_t_rest, .ref q_t_diagonals, .ref q_t_weights])), (q_t_past, .inl (G.2 0, 200, .inl t_past_3)), (q_a1, .inl (G.2 0, n_a1, .inl a1))] → va_S A0 H0 H locs → lv_has ls 2 [(0, .ref q_t), (1, .ref q_a1)] → W p l e ({ frames := 1, cells := 0, slots := 0, locals := 25 } : Room) s m args below meth c H locs 0 0 Q (F0 m 35 ls []) := by
    intro H locs ls hP hD hS hl
    refine lv_aload_n hx hb dX10_recordRow_35 rfl (lv_at hl 1 rfl) ?_
    refine lv_iconst (v := 0) hx hb dX10_recordRow_36 (by decide) ?_
    refine lv_aload_n hx hb dX10_recordRow_37 rfl (lv_at hl 0 rfl) ?_
    refine va_get (D := G.1) (ci := 9) (v := .ref q_t_past) (C := RX10) (T := TX10) (N := 21) hx hb hts wi_X10_recordRow_X10 hown hK hP 0 rfl rfl 2 (by decide) (hts _ wd_X10_recordRow_2) (fun _ h9 => h9) rfl dX10_recordRow_38 ?_
    refine lv_bipush (v := 50) hx hb dX10_recordRow_41 (by decide) ?_
    refine lv_aload_n hx hb dX10_recordRow_43 rfl (lv_at hl 0 rfl) ?_
    refine va_get (D := G.1) (ci := 9) (v := .int t_states_2) (C := RX10) (T := TX10) (N := 21) hx hb hts wi_X10_recordRow_X10 hown hK hP 0 rfl rfl 3 (by decide) (hts _ wd_X10_recordRow_1) (fun _ h9 => h9) rfl dX10_recordRow_44 ?_
    refine lv_imul hx hb dX10_recordRow_47 ?_
    refine lv_bipush (v := 50) hx hb dX10_recordRow_48 (by decide) ?_
    obtain ⟨t_past_7, hf_8, h⟩ := bd_ok h
    refine ck_Sv (rest := []) (wn := [(q_t, .inr (9, [.ref q_t_z, .ref q_t_old, .ref q_t_past, .int t_states_2, .ref q_t_kept, .int t_isKept, .ref q_t_text, .int t_length, .ref q_t_order, .ref q_t_told, .int t_spot, .int t_toldRows, .ref q_t_rowsTaken, .ref q_t_columnsTaken, .ref q_t_ways, .ref q_t_scaled, .ref q_t_rowFactors, .ref q_t_columnFactors, .ref q_t_rest, .ref q_t_diagonals, .ref q_t_weights])), (q_t_past, .inl (G.2 0, 200, .inl t_past_7)), (q_a1, .inl (G.2 0, n_a1, .inl a1))]) ⟨hx, hb, hml, hown, hts⟩ hK hP hD hS hA [2, 1] [0] [0, 2, 1] (c_X10_copyRow l G q_a1 q_t_past _ n_a1 200 a1 t_past_3 (0 : Int32) ((50 : Int32) * t_states_2) (50 : Int32) _ hf_8) (cwS 5 hts gX10_recordRow_X10_copyRow rfl rfl rfl (by decide +kernel) ⟨Nat.le_of_ble_eq_true rfl, Nat.le_of_ble_eq_true rfl⟩) rfl rfl rfl rfl (by decide) rfl rfl rfl hl.1 rfl (Nat.le_of_ble_eq_true rfl) dX10_recordRow_50 ⟨Nat.zero_le _, Nat.zero_le _⟩ (fun H locs hP hD hS => ?_)
    refine lv_aload_n hx hb dX10_recordRow_53 rfl (lv_at hl 0 rfl) ?_
    refine lv_dup hx hb dX10_recordRow_54 rfl ?_
    refine va_get (D := G.1) (ci := 9) (v := .int t_states_2) (C := RX10) (T := TX10) (N := 21) hx hb hts wi_X10_recordRow_X10 hown hK hP 0 rfl rfl 3 (by decide) (hts _ wd_X10_recordRow_1) (fun _ h9 => h9) rfl dX10_recordRow_55 ?_
    refine lv_iconst (v := 1) hx hb dX10_recordRow_58 (by decide) ?_
    refine lv_iadd hx hb dX10_recordRow_59 ?_
    refine lv_topi (fun t_states_9 et_states_9 => ?_)
    replace h := pl_v h et_states_9
    refine st_put (D := G.1) (ci := 9) (v := .int t_states_9) (ty := .int) (C := RX10) (T := TX10) (N := 21) (wn := [(q_t, .inr (9, [.ref q_t_z, .ref q_t_old, .ref q_t_past, .int t_states_9, .ref q_t_kept, .int t_isKept, .ref q_t_text, .int t_length, .ref q_t_order, .ref q_t_told, .int t_spot, .int t_toldRows, .ref q_t_rowsTaken, .ref q_t_columnsTaken, .ref q_t_ways, .ref q_t_scaled, .ref q_t_rowFactors, .ref q_t_columnFactors, .ref q_t_rest, .ref q_t_diagonals, .ref q_t_weights])), (q_t_past, .inl (G.2 0, 200, .inl t_past_7)), (q_a1, .inl (G.2 0, n_a1, .inl a1))]) hx hb hts wi_X10_recordRow_X10 tyX10 tyX10_ok nmX10 hown hK hP hD hS 0 rfl rfl 3 (by decide) (hts _ wd_X10_recordRow_1) (fun _ h9 => h9) rfl (by decide +kernel) rfl rfl (Nat.le_of_ble_eq_true rfl) dX10_recordRow_60 rfl (fun H locs hP hD hS => ?_)
    obtain ⟨rfl, rfl⟩ := sm2 h
    exact KR H locs ls 63 dX10_recordRow_63 hP hD hS
  replace h := hr
  clear hr
  refine lv_icmp_ne (tgt := 35) hx hb dX10_recordRow_5 (by decide) (fun c_1 => ?_) (fun c_1 => ?_)
  · replace h := it_f h c_1
    obtain ⟨rfl, rfl⟩ := sm2 h
    exact J H locs ls hP hD hS (lv_sub hl [0, 1] rfl)
  · replace h := it_t h c_1
    refine lv_aload_n hx hb dX10_recordRow_8 rfl (lv_at hl 0 rfl) ?_
    refine va_get (D := G.1) (ci := 9) (v := .ref q_t_past) (C := RX10) (T := TX10) (N := 21) hx hb hts wi_X10_recordRow_X10 hown hK hP 0 rfl rfl 2 (by decide) (hts _ wd_X10_recordRow_2) (fun _ h9 => h9) rfl dX10_recordRow_9 ?_
    refine lv_bipush (v := 50) hx hb dX10_recordRow_12 (by decide) ?_
    refine lv_aload_n hx hb dX10_recordRow_14 rfl (lv_at hl 0 rfl) ?_
    refine va_get (D := G.1) (ci := 9) (v := .ref q_t_past) (C := RX10) (T := TX10) (N := 21) hx hb hts wi_X10_recordRow_X10 hown hK hP 0 rfl rfl 2 (by decide) (hts _ wd_X10_recordRow_2) (fun _ h9 => h9) rfl dX10_recordRow_15 ?_
    refine lv_iconst (v := 0) hx hb dX10_recordRow_18 (by decide) ?_
    refine lv_sipush (v := 150) hx hb dX10_recordRow_19 (by decide) ?_
    obtain ⟨t_past_4, hf_5, h⟩ := bd_ok h
    refine ck_Sv (rest := []) (wn := [(q_t, .inr (9, [.ref q_t_z, .ref q_t_old, .ref q_t_past, .int t_states, .ref q_t_kept, .int t_isKept, .ref q_t_text, .int t_length, .ref q_t_order, .ref q_t_told, .int t_spot, .int t_toldRows, .ref q_t_rowsTaken, .ref q_t_columnsTaken, .ref q_t_ways, .ref q_t_scaled, .ref q_t_rowFactors, .ref q_t_columnFactors, .ref q_t_rest, .ref q_t_diagonals, .ref q_t_weights])), (q_t_past, .inl (G.2 0, 200, .inl t_past_4)), (q_a1, .inl (G.2 0, n_a1, .inl a1))]) ⟨hx, hb, hml, hown, hts⟩ hK hP hD hS hA [1] [0, 2] [0, 2, 1] (c_X10_copyRow__a3_a1 l G q_t_past _ 200 t_past (50 : Int32) (0 : Int32) (150 : Int32) _ hf_5) (cwS 5 hts gX10_recordRow_X10_copyRow rfl rfl rfl (by decide +kernel) ⟨Nat.le_of_ble_eq_true rfl, Nat.le_of_ble_eq_true rfl⟩) rfl rfl rfl rfl (by decide) rfl rfl rfl hl.1 rfl (Nat.le_of_ble_eq_true rfl) dX10_recordRow_22 ⟨Nat.zero_le _, Nat.zero_le _⟩ (fun H locs hP hD hS => ?_)
    refine lv_aload_n hx hb dX10_recordRow_25 rfl (lv_at hl 0 rfl) ?_
    refine lv_dup hx hb dX10_recordRow_26 rfl ?_
    refine va_get (D := G.1) (ci := 9) (v := .int t_states) (C := RX10) (T := TX10) (N := 21) hx hb hts wi_X10_recordRow_X10 hown hK hP 0 rfl rfl 3 (by decide) (hts _ wd_X10_recordRow_1) (fun _ h9 => h9) rfl dX10_recordRow_27 ?_
    refine lv_iconst (v := 1) hx hb dX10_recordRow_30 (by decide) ?_
    refine lv_isub hx hb dX10_recordRow_31 ?_
    refine lv_topi (fun t_states_6 et_states_6 => ?_)
    replace h := pl_v h et_states_6
    refine st_put (D := G.1) (ci := 9) (v := .int t_states_6) (ty := .int) (C := RX10) (T := TX10) (N := 21) (wn := [(q_t, .inr (9, [.ref q_t_z, .ref q_t_old, .ref q_t_past, .int t_states_6, .ref q_t_kept, .int t_isKept, .ref q_t_text, .int t_length, .ref q_t_order, .ref q_t_told, .int t_spot, .int t_toldRows, .ref q_t_rowsTaken, .ref q_t_columnsTaken, .ref q_t_ways, .ref q_t_scaled, .ref q_t_rowFactors, .ref q_t_columnFactors, .ref q_t_rest, .ref q_t_diagonals, .ref q_t_weights])), (q_t_past, .inl (G.2 0, 200, .inl t_past_4)), (q_a1, .inl (G.2 0, n_a1, .inl a1))]) hx hb hts wi_X10_recordRow_X10 tyX10 tyX10_ok nmX10 hown hK hP hD hS 0 rfl rfl 3 (by decide) (hts _ wd_X10_recordRow_1) (fun _ h9 => h9) rfl (by decide +kernel) rfl rfl (Nat.le_of_ble_eq_true rfl) dX10_recordRow_32 rfl (fun H locs hP hD hS => ?_)
    obtain ⟨rfl, rfl⟩ := sm2 h
    exact J H locs ls hP hD hS (lv_sub hl [0, 1] rfl)
set_option maxHeartbeats 4000000 in
set_option maxRecDepth 100000 in
theorem c_X10_recordRow (l : Launch) (G : GT) (q_t q_t_z q_t_old q_t_past q_t_kept q_t_text q_t_order q_t_told q_t_rowsTaken q_t_columnsTaken q_t_ways q_t_scaled q_t_rowFactors q_t_columnFactors q_t_rest q_t_diagonals q_t_weights q_a1 : Nat) (sz : Nat) (n_a1 : Nat) (t_states : Int32) (t_isKept : Int32) (t_length : Int32) (t_spot : Int32) (t_toldRows : Int32) (t_past : Nat → Int32) (a1 : Nat → Int32) (o_t_states : Int32) (o_t_past : Nat → Int32) (h : f_X10_recordRow n_a1 t_states t_past a1 = some (o_t_states, o_t_past)) : Met l yX10_recordRow wsX10_recordRow ({ frames := 1, cells := 0, slots := 0, locals := 25 } : Room) (va_Pc [.ref q_t, .ref q_a1] (pcW G [(q_t, .inr (9, [.ref q_t_z, .ref q_t_old, .ref q_t_past, .int t_states, .ref q_t_kept, .int t_isKept, .ref q_t_text, .int t_length, .ref q_t_order, .ref q_t_told, .int t_spot, .int t_toldRows, .ref q_t_rowsTaken, .ref q_t_columnsTaken, .ref q_t_ways, .ref q_t_scaled, .ref q_t_rowFactors, .ref q_t_columnFactors, .ref q_t_rest, .ref q_t_diagonals, .ref q_t_weights])), (q_t_past, .inl (G.2 0, 200, .inl t_past)), (q_a1, .inl (G.2 0, n_a1, .inl a1))] sz)) (va_Qv (fun (_ : Unit) => True) (fun _ t => atW G (va_A [(q_t, .inr (9, [.ref q_t_z, .ref q_t_old, .ref q_t_past, .int t_states, .ref q_t_kept, .int t_isKept, .ref q_t_text, .int t_length, .ref q_t_order, .ref q_t_told, .int t_spot, .int t_toldRows, .ref q_t_rowsTaken, .ref q_t_columnsTaken, .ref q_t_ways, .ref q_t_scaled, .ref q_t_rowFactors, .ref q_t_columnFactors, .ref q_t_rest, .ref q_t_diagonals, .ref q_t_weights])), (q_t_past, .inl (G.2 0, 200, .inl t_past)), (q_a1, .inl (G.2 0, n_a1, .inl a1))] sz) [(q_t, .inr (9, [.ref q_t_z, .ref q_t_old, .ref q_t_past, .int o_t_states, .ref q_t_kept, .int t_isKept, .ref q_t_text, .int t_length, .ref q_t_order, .ref q_t_told, .int t_spot, .int t_toldRows, .ref q_t_rowsTaken, .ref q_t_columnsTaken, .ref q_t_ways, .ref q_t_scaled, .ref q_t_rowFactors, .ref q_t_columnFactors, .ref q_t_rest, .ref q_t_diagonals, .ref q_t_weights])), (q_t_past, .inl (G.2 0, 200, .inl o_t_past)), (q_a1, .inl (G.2 0, n_a1, .inl a1))] t) (va_A [(q_t, .inr (9, [.ref q_t_z, .ref q_t_old, .ref q_t_past, .int t_states, .ref q_t_kept, .int t_isKept, .ref q_t_text, .int t_length, .ref q_t_order, .ref q_t_told, .int t_spot, .int t_toldRows, .ref q_t_rowsTaken, .ref q_t_columnsTaken, .ref q_t_ways, .ref q_t_scaled, .ref q_t_rowFactors, .ref q_t_columnFactors, .ref q_t_rest, .ref q_t_diagonals, .ref q_t_weights])), (q_t_past, .inl (G.2 0, 200, .inl t_past)), (q_a1, .inl (G.2 0, n_a1, .inl a1))] sz)) 0 0 (va_A [(q_t, .inr (9, [.ref q_t_z, .ref q_t_old, .ref q_t_past, .int t_states, .ref q_t_kept, .int t_isKept, .ref q_t_text, .int t_length, .ref q_t_order, .ref q_t_told, .int t_spot, .int t_toldRows, .ref q_t_rowsTaken, .ref q_t_columnsTaken, .ref q_t_ways, .ref q_t_scaled, .ref q_t_rowFactors, .ref q_t_columnFactors, .ref q_t_rest, .ref q_t_diagonals, .ref q_t_weights])), (q_t_past, .inl (G.2 0, 200, .inl t_past)), (q_a1, .inl (G.2 0, n_a1, .inl a1))] sz) := by
  refine Met.ofW (cc := cX10_recordRow) (maxL := 2) (ret := none) (by decide) rfl ?_
  intro p e s m args below meth c s₁ B hml hv
  obtain ⟨rfl, hsz, hP, hK, hD0⟩ := hv
  subst hsz
  have hD := hD0.self (sz := s.heap.size)
  generalize hAe : va_A [(q_t, .inr (9, [.ref q_t_z, .ref q_t_old, .ref q_t_past, .int t_states, .ref q_t_kept, .int t_isKept, .ref q_t_text, .int t_length, .ref q_t_order, .ref q_t_told, .int t_spot, .int t_toldRows, .ref q_t_rowsTaken, .ref q_t_columnsTaken, .ref q_t_ways, .ref q_t_scaled, .ref q_t_rowFactors, .ref q_t_columnFactors, .ref q_t_rest, .ref q_t_diagonals, .ref q_t_weights])), (q_t_past, .inl (G.2 0, 200, .inl t_past)), (q_a1, .inl (G.2 0, n_a1, .inl a1))] s.heap.size = A at hD ⊢
  have hA : ∀ q : Nat, s.heap.size ≤ q → A q := fun q h => by rw [← hAe]; exact Or.inr h
  have hl := lv_entry ([.ref q_t, .ref q_a1]) (n := 2) (Nat.le_of_ble_eq_true rfl)
  rw [lg_entry_eq]
  refine k_X10_recordRow ⟨B.exec, B.bytes, hml, findClass_of_methodNamed B.named, atoms_spec (ws := wsX10_recordRow) B.pre⟩ G hK hA q_t q_t_z q_t_old q_t_past q_t_kept q_t_text q_t_order q_t_told q_t_rowsTaken q_t_columnsTaken q_t_ways q_t_scaled q_t_rowFactors q_t_columnFactors q_t_rest q_t_diagonals q_t_weights q_a1 _ _ _ _ _ _ _ _ _ _ h ?_ _ _ _ hP hD va_S.rf hl
  intro H locs ls pc hd hP hD hS
  exact W.vret B.exec B.bytes B.returns (fun t ht hW => ⟨⟨(), rfl, trivial, by rw [ht]; exact hP, hD⟩, hS.F ht⟩) hS.2.2 hd B.notSynchronized
set_option maxRecDepth 20000 in
theorem wd_X10_record_1 : Cond.fieldLink RX10 7 "PermanentDeskModel" "z" "[I" ∈ wsX10_record := List.mem_of_getElem? (i := 1) (by decide +kernel)
set_option maxRecDepth 20000 in
theorem wi_X10_record_X10 : ∀ w ∈ u_ws RX10 TX10 21, w ∈ wsX10_record := by decide +kernel
def f_X10_record (t_states : Int32) (t_z : Nat → Int32) (t_past : Nat → Int32) : Option (Int32 × (Nat → Int32)) :=
  (f_X10_recordRow 50 t_states t_past t_z).bind (fun (t_states_1, t_past_2) =>
  some (t_states_1, t_past_2))
set_option maxHeartbeats 4000000 in
set_option maxRecDepth 100000 in
theorem k_X10_record {p : Program} {l : Launch} {e : Env} {s : State} {m : MethodId} {args : Array Value} {below : List Frame} {meth : Method} {c : Code} {Q : State → Prop} {A0 : Nat → Prop} {H0 : Heap} (C : CallFix p m c cX10_record 1 s args wsX10_record RX10) (G : GT) (hK : gK G s) (hA : ∀ q : Nat, H0.size ≤ q → A0 q) (q_t q_t_z q_t_old q_t_past q_t_kept q_t_text q_t_order q_t_told q_t_rowsTaken q_t_columnsTaken q_t_ways q_t_scaled q_t_rowFactors q_t_columnFactors q_t_rest q_t_diagonals q_t_weights : Nat) (t_states : Int32) (t_isKept : Int32) (t_length : Int32) (t_spot : Int32) (t_toldRows : Int32) (t_z : Nat → Int32) (t_past : Nat → Int32) (o_t_states : Int32) (o_t_past : Nat → Int32) (h : f_X10_record t_states t_z t_past = some (o_t_states, o_t_past)) (KR : ∀ (H : Heap) (locs : List Loc) (ls : Array Slot) (pc : Nat), decode cX10_record pc = .ok (.return_, 1) → va_P G.1 vwCl [(q_t, .inr (9, [.ref q_t_z, .ref q_t_old, .ref q_t_past, .int o_t_states, .ref q_t_kept, .int t_isKept, .ref q_t_text, .int t_length, .ref q_t_order, .ref q_t_told, .int t_spot, .int t_toldRows, .ref q_t_rowsTaken, .ref q_t_columnsTaken, .ref q_t_ways, .ref q_t_scaled, .ref q_t_rowFactors, .ref q_t_columnFactors, .ref q_t_rest, .ref q_t_diagonals, .ref q_t_weights])), (q_t_z, .inl (G.2 0, 50, .inl t_z)), (q_t_past, .inl (G.2 0, 200, .inl o_t_past))] H → va_D A0 [(q_t, .inr (9, [.ref q_t_z, .ref q_t_old, .ref q_t_past, .int o_t_states, .ref q_t_kept, .int t_isKept, .ref q_t_text, .int t_length, .ref q_t_order, .ref q_t_told, .int t_spot, .int t_toldRows, .ref q_t_rowsTaken, .ref q_t_columnsTaken, .ref q_t_ways, .ref q_t_scaled, .ref q_t_rowFactors, .ref q_t_columnFactors, .ref q_t_rest, .ref q_t_diagonals, .ref q_t_weights])), (q_t_z, .inl (G.2 0, 50, .inl t_z)), (q_t_past, .inl (G.2 0, 200, .inl o_t_past))] → va_S A0 H0 H locs → W p l e ({ frames := 2, cells := 0, slots := 0, locals := 46 } : Room) s m args below meth c H locs 0 0 Q (F0 m pc ls [])) : ∀ (H : Heap) (locs : List Loc) (ls : Array Slot), va_P G.1 vwCl [(q_t, .inr (9, [.ref q_t_z, .ref q_t_old, .ref q_t_past, .int t_states, .ref q_t_kept, .int t_isKept, .ref q_t_text, .int t_length, .ref q_t_order, .ref q_t_told, .int t_spot, .int t_toldRows, .ref q_t_rowsTaken, .ref q_t_columnsTaken, .ref q_t_ways, .ref q_t_scaled, .ref q_t_rowFactors, .ref q_t_columnFactors, .ref q_t_rest, .ref q_t_diagonals, .ref q_t_weights])), (q_t_z, .inl (G.2 0, 50, .inl t_z)), (q_t_past, .inl (G.2 0, 200, .inl t_past))] H → va_D A0 [(q_t, .inr (9, [.ref q_t_z, .ref q_t_old, .ref q_t_past, .int t_states, .ref q_t_kept, .int t_isKept, .ref q_t_text, .int t_length, .ref q_t_order, .ref q_t_told, .int t_spot, .int t_toldRows, .ref q_t_rowsTaken, .ref q_t_columnsTaken, .ref q_t_ways, .ref q_t_scaled, .ref q_t_rowFactors, .ref q_t_columnFactors, .ref q_t_rest, .ref q_t_diagonals, .ref q_t_weights])), (q_t_z, .inl (G.2 0, 50, .inl t_z)), (q_t_past, .inl (G.2 0, 200, .inl t_past))] → va_S A0 H0 H locs → lv_has ls 1 [(0, .ref q_t)] → W p l e ({ frames := 2, cells := 0, slots := 0, locals := 46 } : Room) s m args below meth c H locs 0 0 Q (F0 m 0 ls []) := by
  obtain ⟨hx, hb, hml, hown, hts⟩ := C
  intro H locs ls hP hD hS hl
  rw [f_X10_record] at h
  refine lv_aload_n hx hb dX10_record_0 rfl (lv_at hl 0 rfl) ?_
  refine lv_aload_n hx hb dX10_record_1 rfl (lv_at hl 0 rfl) ?_
  refine va_get (D := G.1) (ci := 9) (v := .ref q_t_z) (C := RX10) (T := TX10) (N := 21) hx hb hts wi_X10_record_X10 hown hK hP 0 rfl rfl 0 (by decide) (hts _ wd_X10_record_1) (fun _ h9 => h9) rfl dX10_record_2 ?_
  obtain ⟨⟨t_states_1, t_past_2⟩, hf_3, h⟩ := bd_ok h
  refine ck_Vv (rest := []) (wn := [(q_t, .inr (9, [.ref q_t_z, .ref q_t_old, .ref q_t_past, .int t_states_1, .ref q_t_kept, .int t_isKept, .ref q_t_text, .int t_length, .ref q_t_order, .ref q_t_told, .int t_spot, .int t_toldRows, .ref q_t_rowsTaken, .ref q_t_columnsTaken, .ref q_t_ways, .ref q_t_scaled, .ref q_t_rowFactors, .ref q_t_columnFactors, .ref q_t_rest, .ref q_t_diagonals, .ref q_t_weights])), (q_t_z, .inl (G.2 0, 50, .inl t_z)), (q_t_past, .inl (G.2 0, 200, .inl t_past_2))]) ⟨hx, hb, hml, hown, hts⟩ hK hP hD hS hA [0, 2, 1] [] [0, 2, 1] (c_X10_recordRow l G q_t q_t_z q_t_old q_t_past q_t_kept q_t_text q_t_order q_t_told q_t_rowsTaken q_t_columnsTaken q_t_ways q_t_scaled q_t_rowFactors q_t_columnFactors q_t_rest q_t_diagonals q_t_weights q_t_z _ 50 t_states t_isKept t_length t_spot t_toldRows t_past t_z _ _ hf_3) (cwV 1 hts gX10_record_X10_recordRow rfl rfl rfl (by decide +kernel) ⟨Nat.le_of_ble_eq_true rfl, Nat.le_of_ble_eq_true rfl⟩) rfl rfl rfl rfl rfl rfl (by decide) rfl rfl rfl hl.1 rfl (Nat.le_of_ble_eq_true rfl) dX10_record_5 ⟨Nat.zero_le _, Nat.zero_le _⟩ (fun H locs hP hD hS => ?_)
  obtain ⟨rfl, rfl⟩ := sm2 h
  exact KR H locs ls 8 dX10_record_8 hP hD hS
set_option maxHeartbeats 4000000 in
set_option maxRecDepth 100000 in
theorem c_X10_record (l : Launch) (G : GT) (q_t q_t_z q_t_old q_t_past q_t_kept q_t_text q_t_order q_t_told q_t_rowsTaken q_t_columnsTaken q_t_ways q_t_scaled q_t_rowFactors q_t_columnFactors q_t_rest q_t_diagonals q_t_weights : Nat) (sz : Nat) (t_states : Int32) (t_isKept : Int32) (t_length : Int32) (t_spot : Int32) (t_toldRows : Int32) (t_z : Nat → Int32) (t_past : Nat → Int32) (o_t_states : Int32) (o_t_past : Nat → Int32) (h : f_X10_record t_states t_z t_past = some (o_t_states, o_t_past)) : Met l yX10_record wsX10_record ({ frames := 2, cells := 0, slots := 0, locals := 46 } : Room) (va_Pc [.ref q_t] (pcW G [(q_t, .inr (9, [.ref q_t_z, .ref q_t_old, .ref q_t_past, .int t_states, .ref q_t_kept, .int t_isKept, .ref q_t_text, .int t_length, .ref q_t_order, .ref q_t_told, .int t_spot, .int t_toldRows, .ref q_t_rowsTaken, .ref q_t_columnsTaken, .ref q_t_ways, .ref q_t_scaled, .ref q_t_rowFactors, .ref q_t_columnFactors, .ref q_t_rest, .ref q_t_diagonals, .ref q_t_weights])), (q_t_z, .inl (G.2 0, 50, .inl t_z)), (q_t_past, .inl (G.2 0, 200, .inl t_past))] sz)) (va_Qv (fun (_ : Unit) => True) (fun _ t => atW G (va_A [(q_t, .inr (9, [.ref q_t_z, .ref q_t_old, .ref q_t_past, .int t_states, .ref q_t_kept, .int t_isKept, .ref q_t_text, .int t_length, .ref q_t_order, .ref q_t_told, .int t_spot, .int t_toldRows, .ref q_t_rowsTaken, .ref q_t_columnsTaken, .ref q_t_ways, .ref q_t_scaled, .ref q_t_rowFactors, .ref q_t_columnFactors, .ref q_t_rest, .ref q_t_diagonals, .ref q_t_weights])), (q_t_z, .inl (G.2 0, 50, .inl t_z)), (q_t_past, .inl (G.2 0, 200, .inl t_past))] sz) [(q_t, .inr (9, [.ref q_t_z, .ref q_t_old, .ref q_t_past, .int o_t_states, .ref q_t_kept, .int t_isKept, .ref q_t_text, .int t_length, .ref q_t_order, .ref q_t_told, .int t_spot, .int t_toldRows, .ref q_t_rowsTaken, .ref q_t_columnsTaken, .ref q_t_ways, .ref q_t_scaled, .ref q_t_rowFactors, .ref q_t_columnFactors, .ref q_t_rest, .ref q_t_diagonals, .ref q_t_weights])), (q_t_z, .inl (G.2 0, 50, .inl t_z)), (q_t_past, .inl (G.2 0, 200, .inl o_t_past))] t) (va_A [(q_t, .inr (9, [.ref q_t_z, .ref q_t_old, .ref q_t_past, .int t_states, .ref q_t_kept, .int t_isKept, .ref q_t_text, .int t_length, .ref q_t_order, .ref q_t_told, .int t_spot, .int t_toldRows, .ref q_t_rowsTaken, .ref q_t_columnsTaken, .ref q_t_ways, .ref q_t_scaled, .ref q_t_rowFactors, .ref q_t_columnFactors, .ref q_t_rest, .ref q_t_diagonals, .ref q_t_weights])), (q_t_z, .inl (G.2 0, 50, .inl t_z)), (q_t_past, .inl (G.2 0, 200, .inl t_past))] sz)) 0 0 (va_A [(q_t, .inr (9, [.ref q_t_z, .ref q_t_old, .ref q_t_past, .int t_states, .ref q_t_kept, .int t_isKept, .ref q_t_text, .int t_length, .ref q_t_order, .ref q_t_told, .int t_spot, .int t_toldRows, .ref q_t_rowsTaken, .ref q_t_columnsTaken, .ref q_t_ways, .ref q_t_scaled, .ref q_t_rowFactors, .ref q_t_columnFactors, .ref q_t_rest, .ref q_t_diagonals, .ref q_t_weights])), (q_t_z, .inl (G.2 0, 50, .inl t_z)), (q_t_past, .inl (G.2 0, 200, .inl t_past))] sz) := by
  refine Met.ofW (cc := cX10_record) (maxL := 1) (ret := none) (by decide) rfl ?_
  intro p e s m args below meth c s₁ B hml hv
  obtain ⟨rfl, hsz, hP, hK, hD0⟩ := hv
  subst hsz
  have hD := hD0.self (sz := s.heap.size)
  generalize hAe : va_A [(q_t, .inr (9, [.ref q_t_z, .ref q_t_old, .ref q_t_past, .int t_states, .ref q_t_kept, .int t_isKept, .ref q_t_text, .int t_length, .ref q_t_order, .ref q_t_told, .int t_spot, .int t_toldRows, .ref q_t_rowsTaken, .ref q_t_columnsTaken, .ref q_t_ways, .ref q_t_scaled, .ref q_t_rowFactors, .ref q_t_columnFactors, .ref q_t_rest, .ref q_t_diagonals, .ref q_t_weights])), (q_t_z, .inl (G.2 0, 50, .inl t_z)), (q_t_past, .inl (G.2 0, 200, .inl t_past))] s.heap.size = A at hD ⊢
  have hA : ∀ q : Nat, s.heap.size ≤ q → A q := fun q h => by rw [← hAe]; exact Or.inr h
  have hl := lv_entry ([.ref q_t]) (n := 1) (Nat.le_of_ble_eq_true rfl)
  rw [lg_entry_eq]
  refine k_X10_record ⟨B.exec, B.bytes, hml, findClass_of_methodNamed B.named, atoms_spec (ws := wsX10_record) B.pre⟩ G hK hA q_t q_t_z q_t_old q_t_past q_t_kept q_t_text q_t_order q_t_told q_t_rowsTaken q_t_columnsTaken q_t_ways q_t_scaled q_t_rowFactors q_t_columnFactors q_t_rest q_t_diagonals q_t_weights _ _ _ _ _ _ _ _ _ h ?_ _ _ _ hP hD va_S.rf hl
  intro H locs ls pc hd hP hD hS
  exact W.vret B.exec B.bytes B.returns (fun t ht hW => ⟨⟨(), rfl, trivial, by rw [ht]; exact hP, hD⟩, hS.F ht⟩) hS.2.2 hd B.notSynchronized
set_option maxRecDepth 20000 in
theorem wd_X10_undo_1 : Cond.fieldLink RX10 63 "PermanentDeskModel" "states" "I" ∈ wsX10_undo := List.mem_of_getElem? (i := 1) (by decide +kernel)
set_option maxRecDepth 20000 in
theorem wi_X10_undo_X10 : ∀ w ∈ u_ws RX10 TX10 21, w ∈ wsX10_undo := by decide +kernel
set_option maxRecDepth 20000 in
theorem wd_X10_undo_3 : Cond.fieldLink RX10 16 "PermanentDeskModel" "past" "[I" ∈ wsX10_undo := List.mem_of_getElem? (i := 3) (by decide +kernel)
set_option maxRecDepth 20000 in
theorem wd_X10_undo_4 : Cond.fieldLink RX10 7 "PermanentDeskModel" "z" "[I" ∈ wsX10_undo := List.mem_of_getElem? (i := 4) (by decide +kernel)
set_option maxRecDepth 20000 in
theorem wd_X10_undo_2 : Cond.constant RX10 75 (-2000000005) ∈ wsX10_undo := List.mem_of_getElem? (i := 2) (by decide +kernel)
def f_X10_undo (t_states : Int32) (t_z : Nat → Int32) (t_past : Nat → Int32) : Option (Int32 × Int32 × (Nat → Int32)) :=
  if t_states = 0 then
    some ((-2000000005 : Int32), t_states, t_z)
  else
    pl ((t_states - (1 : Int32)) : Int32) (fun t_states_2 =>
    (f_X10_copyRow 200 50 t_past t_z ((50 : Int32) * t_states_2) (0 : Int32) (50 : Int32)).bind (fun t_z_3 =>
    some (t_states_2, t_states_2, t_z_3)))
set_option maxHeartbeats 4000000 in
set_option maxRecDepth 100000 in
theorem k_X10_undo {p : Program} {l : Launch} {e : Env} {s : State} {m : MethodId} {args : Array Value} {below : List Frame} {meth : Method} {c : Code} {Q : State → Prop} {A0 : Nat → Prop} {H0 : Heap} (C : CallFix p m c cX10_undo 1 s args wsX10_undo RX10) (G : GT) (hK : gK G s) (hA : ∀ q : Nat, H0.size ≤ q → A0 q) (q_t q_t_z q_t_old q_t_past q_t_kept q_t_text q_t_order q_t_told q_t_rowsTaken q_t_columnsTaken q_t_ways q_t_scaled q_t_rowFactors q_t_columnFactors q_t_rest q_t_diagonals q_t_weights : Nat) (t_states : Int32) (t_isKept : Int32) (t_length : Int32) (t_spot : Int32) (t_toldRows : Int32) (t_z : Nat → Int32) (t_past : Nat → Int32) (r : Int32) (o_t_states : Int32) (o_t_z : Nat → Int32) (h : f_X10_undo t_states t_z t_past = some (r, o_t_states, o_t_z)) (KR : ∀ (H : Heap) (locs : List Loc) (ls : Array Slot) (pc : Nat), decode cX10_undo pc = .ok (.ireturn, 1) → va_P G.1 vwCl [(q_t, .inr (9, [.ref q_t_z, .ref q_t_old, .ref q_t_past, .int o_t_states, .ref q_t_kept, .int t_isKept, .ref q_t_text, .int t_length, .ref q_t_order, .ref q_t_told, .int t_spot, .int t_toldRows, .ref q_t_rowsTaken, .ref q_t_columnsTaken, .ref q_t_ways, .ref q_t_scaled, .ref q_t_rowFactors, .ref q_t_columnFactors, .ref q_t_rest, .ref q_t_diagonals, .ref q_t_weights])), (q_t_z, .inl (G.2 0, 50, .inl o_t_z)), (q_t_past, .inl (G.2 0, 200, .inl t_past))] H → va_D A0 [(q_t, .inr (9, [.ref q_t_z, .ref q_t_old, .ref q_t_past, .int o_t_states, .ref q_t_kept, .int t_isKept, .ref q_t_text, .int t_length, .ref q_t_order, .ref q_t_told, .int t_spot, .int t_toldRows, .ref q_t_rowsTaken, .ref q_t_columnsTaken, .ref q_t_ways, .ref q_t_scaled, .ref q_t_rowFactors, .ref q_t_columnFactors, .ref q_t_rest, .ref q_t_diagonals, .ref q_t_weights])), (q_t_z, .inl (G.2 0, 50, .inl o_t_z)), (q_t_past, .inl (G.2 0, 200, .inl t_past))] → va_S A0 H0 H locs → W p l e ({ frames := 1, cells := 0, slots := 0, locals := 25 } : Room) s m args below meth c H locs 0 0 Q (F0 m pc ls [.int r])) : ∀ (H : Heap) (locs : List Loc) (ls : Array Slot), va_P G.1 vwCl [(q_t, .inr (9, [.ref q_t_z, .ref q_t_old, .ref q_t_past, .int t_states, .ref q_t_kept, .int t_isKept, .ref q_t_text, .int t_length, .ref q_t_order, .ref q_t_told, .int t_spot, .int t_toldRows, .ref q_t_rowsTaken, .ref q_t_columnsTaken, .ref q_t_ways, .ref q_t_scaled, .ref q_t_rowFactors, .ref q_t_columnFactors, .ref q_t_rest, .ref q_t_diagonals, .ref q_t_weights])), (q_t_z, .inl (G.2 0, 50, .inl t_z)), (q_t_past, .inl (G.2 0, 200, .inl t_past))] H → va_D A0 [(q_t, .inr (9, [.ref q_t_z, .ref q_t_old, .ref q_t_past, .int t_states, .ref q_t_kept, .int t_isKept, .ref q_t_text, .int t_length, .ref q_t_order, .ref q_t_told, .int t_spot, .int t_toldRows, .ref q_t_rowsTaken, .ref q_t_columnsTaken, .ref q_t_ways, .ref q_t_scaled, .ref q_t_rowFactors, .ref q_t_columnFactors, .ref q_t_rest, .ref q_t_diagonals, .ref q_t_weights])), (q_t_z, .inl (G.2 0, 50, .inl t_z)), (q_t_past, .inl (G.2 0, 200, .inl t_past))] → va_S A0 H0 H locs → lv_has ls 1 [(0, .ref q_t)] → W p l e ({ frames := 1, cells := 0, slots := 0, locals := 25 } : Room) s m args below meth c H locs 0 0 Q (F0 m 0 ls []) := by
  obtain ⟨hx, hb, hml, hown, hts⟩ := C
  intro H locs ls hP hD hS hl
  rw [f_X10_undo] at h
  refine lv_aload_n hx hb dX10_undo_0 rfl (lv_at hl 0 rfl) ?_
  refine va_get (D := G.1) (ci := 9) (v := .int t_states) (C := RX10) (T := TX10) (N := 21) hx hb hts wi_X10_undo_X10 hown hK hP 0 rfl rfl 3 (by decide) (hts _ wd_X10_undo_1) (fun _ h9 => h9) rfl dX10_undo_1 ?_
  refine lv_if_ne (tgt := 10) hx hb dX10_undo_4 (by decide) (fun c_1 => ?_) (fun c_1 => ?_)
  · replace h := it_f h c_1
    refine lv_aload_n hx hb dX10_undo_10 rfl (lv_at hl 0 rfl) ?_
    refine lv_dup hx hb dX10_undo_11 rfl ?_
    refine va_get (D := G.1) (ci := 9) (v := .int t_states) (C := RX10) (T := TX10) (N := 21) hx hb hts wi_X10_undo_X10 hown hK hP 0 rfl rfl 3 (by decide) (hts _ wd_X10_undo_1) (fun _ h9 => h9) rfl dX10_undo_12 ?_
    refine lv_iconst (v := 1) hx hb dX10_undo_15 (by decide) ?_
    refine lv_isub hx hb dX10_undo_16 ?_
    refine lv_topi (fun t_states_2 et_states_2 => ?_)
    replace h := pl_v h et_states_2
    refine st_put (D := G.1) (ci := 9) (v := .int t_states_2) (ty := .int) (C := RX10) (T := TX10) (N := 21) (wn := [(q_t, .inr (9, [.ref q_t_z, .ref q_t_old, .ref q_t_past, .int t_states_2, .ref q_t_kept, .int t_isKept, .ref q_t_text, .int t_length, .ref q_t_order, .ref q_t_told, .int t_spot, .int t_toldRows, .ref q_t_rowsTaken, .ref q_t_columnsTaken, .ref q_t_ways, .ref q_t_scaled, .ref q_t_rowFactors, .ref q_t_columnFactors, .ref q_t_rest, .ref q_t_diagonals, .ref q_t_weights])), (q_t_z, .inl (G.2 0, 50, .inl t_z)), (q_t_past, .inl (G.2 0, 200, .inl t_past))]) hx hb hts wi_X10_undo_X10 tyX10 tyX10_ok nmX10 hown hK hP hD hS 0 rfl rfl 3 (by decide) (hts _ wd_X10_undo_1) (fun _ h9 => h9) rfl (by decide +kernel) rfl rfl (Nat.le_of_ble_eq_true rfl) dX10_undo_17 rfl (fun H locs hP hD hS => ?_)
    refine lv_aload_n hx hb dX10_undo_20 rfl (lv_at hl 0 rfl) ?_
    refine va_get (D := G.1) (ci := 9) (v := .ref q_t_past) (C := RX10) (T := TX10) (N := 21) hx hb hts wi_X10_undo_X10 hown hK hP 0 rfl rfl 2 (by decide) (hts _ wd_X10_undo_3) (fun _ h9 => h9) rfl dX10_undo_21 ?_
    refine lv_bipush (v := 50) hx hb dX10_undo_24 (by decide) ?_
    refine lv_aload_n hx hb dX10_undo_26 rfl (lv_at hl 0 rfl) ?_
    refine va_get (D := G.1) (ci := 9) (v := .int t_states_2) (C := RX10) (T := TX10) (N := 21) hx hb hts wi_X10_undo_X10 hown hK hP 0 rfl rfl 3 (by decide) (hts _ wd_X10_undo_1) (fun _ h9 => h9) rfl dX10_undo_27 ?_
    refine lv_imul hx hb dX10_undo_30 ?_
    refine lv_aload_n hx hb dX10_undo_31 rfl (lv_at hl 0 rfl) ?_
    refine va_get (D := G.1) (ci := 9) (v := .ref q_t_z) (C := RX10) (T := TX10) (N := 21) hx hb hts wi_X10_undo_X10 hown hK hP 0 rfl rfl 0 (by decide) (hts _ wd_X10_undo_4) (fun _ h9 => h9) rfl dX10_undo_32 ?_
    refine lv_iconst (v := 0) hx hb dX10_undo_35 (by decide) ?_
    refine lv_bipush (v := 50) hx hb dX10_undo_36 (by decide) ?_
    obtain ⟨t_z_3, hf_4, h⟩ := bd_ok h
    refine ck_Sv (rest := []) (wn := [(q_t, .inr (9, [.ref q_t_z, .ref q_t_old, .ref q_t_past, .int t_states_2, .ref q_t_kept, .int t_isKept, .ref q_t_text, .int t_length, .ref q_t_order, .ref q_t_told, .int t_spot, .int t_toldRows, .ref q_t_rowsTaken, .ref q_t_columnsTaken, .ref q_t_ways, .ref q_t_scaled, .ref q_t_rowFactors, .ref q_t_columnFactors, .ref q_t_rest, .ref q_t_diagonals, .ref q_t_weights])), (q_t_z, .inl (G.2 0, 50, .inl t_z_3)), (q_t_past, .inl (G.2 0, 200, .inl t_past))]) ⟨hx, hb, hml, hown, hts⟩ hK hP hD hS hA [2, 1] [0] [0, 2, 1] (c_X10_copyRow l G q_t_past q_t_z _ 200 50 t_past t_z ((50 : Int32) * t_states_2) (0 : Int32) (50 : Int32) _ hf_4) (cwS 5 hts gX10_undo_X10_copyRow rfl rfl rfl (by decide +kernel) ⟨Nat.le_of_ble_eq_true rfl, Nat.le_of_ble_eq_true rfl⟩) rfl rfl rfl rfl (by decide) rfl rfl rfl hl.1 rfl (Nat.le_of_ble_eq_true rfl) dX10_undo_38 ⟨Nat.zero_le _, Nat.zero_le _⟩ (fun H locs hP hD hS => ?_)
    refine lv_aload_n hx hb dX10_undo_41 rfl (lv_at hl 0 rfl) ?_
    refine va_get (D := G.1) (ci := 9) (v := .int t_states_2) (C := RX10) (T := TX10) (N := 21) hx hb hts wi_X10_undo_X10 hown hK hP 0 rfl rfl 3 (by decide) (hts _ wd_X10_undo_1) (fun _ h9 => h9) rfl dX10_undo_42 ?_
    obtain ⟨rfl, rfl, rfl⟩ := sm3 h
    exact KR H locs ls 45 dX10_undo_45 hP hD hS
  · replace h := it_t h c_1
    refine lv_ldc (v := -2000000005) hx hb hown (hts _ wd_X10_undo_2) dX10_undo_7 ?_
    obtain ⟨rfl, rfl, rfl⟩ := sm3 h
    exact KR H locs ls 9 dX10_undo_9 hP hD hS
set_option maxHeartbeats 4000000 in
set_option maxRecDepth 100000 in
theorem c_X10_undo (l : Launch) (G : GT) (q_t q_t_z q_t_old q_t_past q_t_kept q_t_text q_t_order q_t_told q_t_rowsTaken q_t_columnsTaken q_t_ways q_t_scaled q_t_rowFactors q_t_columnFactors q_t_rest q_t_diagonals q_t_weights : Nat) (sz : Nat) (t_states : Int32) (t_isKept : Int32) (t_length : Int32) (t_spot : Int32) (t_toldRows : Int32) (t_z : Nat → Int32) (t_past : Nat → Int32) (r : Int32) (o_t_states : Int32) (o_t_z : Nat → Int32) (h : f_X10_undo t_states t_z t_past = some (r, o_t_states, o_t_z)) : Met l yX10_undo wsX10_undo ({ frames := 1, cells := 0, slots := 0, locals := 25 } : Room) (va_Pc [.ref q_t] (pcW G [(q_t, .inr (9, [.ref q_t_z, .ref q_t_old, .ref q_t_past, .int t_states, .ref q_t_kept, .int t_isKept, .ref q_t_text, .int t_length, .ref q_t_order, .ref q_t_told, .int t_spot, .int t_toldRows, .ref q_t_rowsTaken, .ref q_t_columnsTaken, .ref q_t_ways, .ref q_t_scaled, .ref q_t_rowFactors, .ref q_t_columnFactors, .ref q_t_rest, .ref q_t_diagonals, .ref q_t_weights])), (q_t_z, .inl (G.2 0, 50, .inl t_z)), (q_t_past, .inl (G.2 0, 200, .inl t_past))] sz)) (va_Qi (fun r9 (_ : Unit) => r9 = r) (fun _ t => atW G (va_A [(q_t, .inr (9, [.ref q_t_z, .ref q_t_old, .ref q_t_past, .int t_states, .ref q_t_kept, .int t_isKept, .ref q_t_text, .int t_length, .ref q_t_order, .ref q_t_told, .int t_spot, .int t_toldRows, .ref q_t_rowsTaken, .ref q_t_columnsTaken, .ref q_t_ways, .ref q_t_scaled, .ref q_t_rowFactors, .ref q_t_columnFactors, .ref q_t_rest, .ref q_t_diagonals, .ref q_t_weights])), (q_t_z, .inl (G.2 0, 50, .inl t_z)), (q_t_past, .inl (G.2 0, 200, .inl t_past))] sz) [(q_t, .inr (9, [.ref q_t_z, .ref q_t_old, .ref q_t_past, .int o_t_states, .ref q_t_kept, .int t_isKept, .ref q_t_text, .int t_length, .ref q_t_order, .ref q_t_told, .int t_spot, .int t_toldRows, .ref q_t_rowsTaken, .ref q_t_columnsTaken, .ref q_t_ways, .ref q_t_scaled, .ref q_t_rowFactors, .ref q_t_columnFactors, .ref q_t_rest, .ref q_t_diagonals, .ref q_t_weights])), (q_t_z, .inl (G.2 0, 50, .inl o_t_z)), (q_t_past, .inl (G.2 0, 200, .inl t_past))] t) (va_A [(q_t, .inr (9, [.ref q_t_z, .ref q_t_old, .ref q_t_past, .int t_states, .ref q_t_kept, .int t_isKept, .ref q_t_text, .int t_length, .ref q_t_order, .ref q_t_told, .int t_spot, .int t_toldRows, .ref q_t_rowsTaken, .ref q_t_columnsTaken, .ref q_t_ways, .ref q_t_scaled, .ref q_t_rowFactors, .ref q_t_columnFactors, .ref q_t_rest, .ref q_t_diagonals, .ref q_t_weights])), (q_t_z, .inl (G.2 0, 50, .inl t_z)), (q_t_past, .inl (G.2 0, 200, .inl t_past))] sz)) 0 0 (va_A [(q_t, .inr (9, [.ref q_t_z, .ref q_t_old, .ref q_t_past, .int t_states, .ref q_t_kept, .int t_isKept, .ref q_t_text, .int t_length, .ref q_t_order, .ref q_t_told, .int t_spot, .int t_toldRows, .ref q_t_rowsTaken, .ref q_t_columnsTaken, .ref q_t_ways, .ref q_t_scaled, .ref q_t_rowFactors, .ref q_t_columnFactors, .ref q_t_rest, .ref q_t_diagonals, .ref q_t_weights])), (q_t_z, .inl (G.2 0, 50, .inl t_z)), (q_t_past, .inl (G.2 0, 200, .inl t_past))] sz) := by
  refine Met.ofW (cc := cX10_undo) (maxL := 1) (ret := (some .int)) (by decide) rfl ?_
  intro p e s m args below meth c s₁ B hml hv
  obtain ⟨rfl, hsz, hP, hK, hD0⟩ := hv
  subst hsz
  have hD := hD0.self (sz := s.heap.size)
  generalize hAe : va_A [(q_t, .inr (9, [.ref q_t_z, .ref q_t_old, .ref q_t_past, .int t_states, .ref q_t_kept, .int t_isKept, .ref q_t_text, .int t_length, .ref q_t_order, .ref q_t_told, .int t_spot, .int t_toldRows, .ref q_t_rowsTaken, .ref q_t_columnsTaken, .ref q_t_ways, .ref q_t_scaled, .ref q_t_rowFactors, .ref q_t_columnFactors, .ref q_t_rest, .ref q_t_diagonals, .ref q_t_weights])), (q_t_z, .inl (G.2 0, 50, .inl t_z)), (q_t_past, .inl (G.2 0, 200, .inl t_past))] s.heap.size = A at hD ⊢
  have hA : ∀ q : Nat, s.heap.size ≤ q → A q := fun q h => by rw [← hAe]; exact Or.inr h
  have hl := lv_entry ([.ref q_t]) (n := 1) (Nat.le_of_ble_eq_true rfl)
  rw [lg_entry_eq]
  refine k_X10_undo ⟨B.exec, B.bytes, hml, findClass_of_methodNamed B.named, atoms_spec (ws := wsX10_undo) B.pre⟩ G hK hA q_t q_t_z q_t_old q_t_past q_t_kept q_t_text q_t_order q_t_told q_t_rowsTaken q_t_columnsTaken q_t_ways q_t_scaled q_t_rowFactors q_t_columnFactors q_t_rest q_t_diagonals q_t_weights _ _ _ _ _ _ _ _ _ _ h ?_ _ _ _ hP hD va_S.rf hl
  intro H locs ls pc hd hP hD hS
  exact W.iret B.exec B.bytes B.returns (fun t ht hW => ⟨⟨r, (), rfl, rfl, by rw [ht]; exact hP, hD⟩, hS.F ht⟩) hS.2.2 hd B.notSynchronized
set_option maxRecDepth 20000 in
theorem wd_X10_keep_1 : Cond.fieldLink RX10 7 "PermanentDeskModel" "z" "[I" ∈ wsX10_keep := List.mem_of_getElem? (i := 1) (by decide +kernel)
set_option maxRecDepth 20000 in
theorem wi_X10_keep_X10 : ∀ w ∈ u_ws RX10 TX10 21, w ∈ wsX10_keep := by decide +kernel
set_option maxRecDepth 20000 in
theorem wd_X10_keep_2 : Cond.fieldLink RX10 19 "PermanentDeskModel" "kept" "[I" ∈ wsX10_keep := List.mem_of_getElem? (i := 2) (by decide +kernel)
set_option maxRecDepth 20000 in
theorem wd_X10_keep_3 : Cond.fieldLink RX10 76 "PermanentDeskModel" "isKept" "Z" ∈ wsX10_keep := List.mem_of_getElem? (i := 3) (by decide +kernel)
def f_X10_keep (t_isKept : Int32) (t_z : Nat → Int32) (t_kept : Nat → Int32) : Option (Int32 × Int32 × (Nat → Int32)) :=
  (f_X10_copyRow 50 50 t_z t_kept (0 : Int32) (0 : Int32) (50 : Int32)).bind (fun t_kept_1 =>
  gd (okI (49 : Int32) 50) (
  some ((t_z (49 : Int32).toNatClampNeg), (1 : Int32), t_kept_1)))
set_option maxHeartbeats 4000000 in
set_option maxRecDepth 100000 in
theorem k_X10_keep {p : Program} {l : Launch} {e : Env} {s : State} {m : MethodId} {args : Array Value} {below : List Frame} {meth : Method} {c : Code} {Q : State → Prop} {A0 : Nat → Prop} {H0 : Heap} (C : CallFix p m c cX10_keep 1 s args wsX10_keep RX10) (G : GT) (hK : gK G s) (hA : ∀ q : Nat, H0.size ≤ q → A0 q) (q_t q_t_z q_t_old q_t_past q_t_kept q_t_text q_t_order q_t_told q_t_rowsTaken q_t_columnsTaken q_t_ways q_t_scaled q_t_rowFactors q_t_columnFactors q_t_rest q_t_diagonals q_t_weights : Nat) (t_states : Int32) (t_isKept : Int32) (t_length : Int32) (t_spot : Int32) (t_toldRows : Int32) (t_z : Nat → Int32) (t_kept : Nat → Int32) (r : Int32) (o_t_isKept : Int32) (o_t_kept : Nat → Int32) (h : f_X10_keep t_isKept t_z t_kept = some (r, o_t_isKept, o_t_kept)) (KR : ∀ (H : Heap) (locs : List Loc) (ls : Array Slot) (pc : Nat), decode cX10_keep pc = .ok (.ireturn, 1) → va_P G.1 vwCl [(q_t, .inr (9, [.ref q_t_z, .ref q_t_old, .ref q_t_past, .int t_states, .ref q_t_kept, .int o_t_isKept, .ref q_t_text, .int t_length, .ref q_t_order, .ref q_t_told, .int t_spot, .int t_toldRows, .ref q_t_rowsTaken, .ref q_t_columnsTaken, .ref q_t_ways, .ref q_t_scaled, .ref q_t_rowFactors, .ref q_t_columnFactors, .ref q_t_rest, .ref q_t_diagonals, .ref q_t_weights])), (q_t_z, .inl (G.2 0, 50, .inl t_z)), (q_t_kept, .inl (G.2 0, 50, .inl o_t_kept))] H → va_D A0 [(q_t, .inr (9, [.ref q_t_z, .ref q_t_old, .ref q_t_past, .int t_states, .ref q_t_kept, .int o_t_isKept, .ref q_t_text, .int t_length, .ref q_t_order, .ref q_t_told, .int t_spot, .int t_toldRows, .ref q_t_rowsTaken, .ref q_t_columnsTaken, .ref q_t_ways, .ref q_t_scaled, .ref q_t_rowFactors, .ref q_t_columnFactors, .ref q_t_rest, .ref q_t_diagonals, .ref q_t_weights])), (q_t_z, .inl (G.2 0, 50, .inl t_z)), (q_t_kept, .inl (G.2 0, 50, .inl o_t_kept))] → va_S A0 H0 H locs → W p l e ({ frames := 1, cells := 0, slots := 0, locals := 25 } : Room) s m args below meth c H locs 0 0 Q (F0 m pc ls [.int r])) : ∀ (H : Heap) (locs : List Loc) (ls : Array Slot), va_P G.1 vwCl [(q_t, .inr (9, [.ref q_t_z, .ref q_t_old, .ref q_t_past, .int t_states, .ref q_t_kept, .int t_isKept, .ref q_t_text, .int t_length, .ref q_t_order, .ref q_t_told, .int t_spot, .int t_toldRows, .ref q_t_rowsTaken, .ref q_t_columnsTaken, .ref q_t_ways, .ref q_t_scaled, .ref q_t_rowFactors, .ref q_t_columnFactors, .ref q_t_rest, .ref q_t_diagonals, .ref q_t_weights])), (q_t_z, .inl (G.2 0, 50, .inl t_z)), (q_t_kept, .inl (G.2 0, 50, .inl t_kept))] H → va_D A0 [(q_t, .inr (9, [.ref q_t_z, .ref q_t_old, .ref q_t_past, .int t_states, .ref q_t_kept, .int t_isKept, .ref q_t_text, .int t_length, .ref q_t_order, .ref q_t_told, .int t_spot, .int t_toldRows, .ref q_t_rowsTaken, .ref q_t_columnsTaken, .ref q_t_ways, .ref q_t_scaled, .ref q_t_rowFactors, .ref q_t_columnFactors, .ref q_t_rest, .ref q_t_diagonals, .ref q_t_weights])), (q_t_z, .inl (G.2 0, 50, .inl t_z)), (q_t_kept, .inl (G.2 0, 50, .inl t_kept))] → va_S A0 H0 H locs → lv_has ls 1 [(0, .ref q_t)] → W p l e ({ frames := 1, cells := 0, slots := 0, locals := 25 } : Room) s m args below meth c H locs 0 0 Q (F0 m 0 ls []) := by
  obtain ⟨hx, hb, hml, hown, hts⟩ := C
  intro H locs ls hP hD hS hl
  rw [f_X10_keep] at h
  refine lv_aload_n hx hb dX10_keep_0 rfl (lv_at hl 0 rfl) ?_
  refine va_get (D := G.1) (ci := 9) (v := .ref q_t_z) (C := RX10) (T := TX10) (N := 21) hx hb hts wi_X10_keep_X10 hown hK hP 0 rfl rfl 0 (by decide) (hts _ wd_X10_keep_1) (fun _ h9 => h9) rfl dX10_keep_1 ?_
  refine lv_iconst (v := 0) hx hb dX10_keep_4 (by decide) ?_
  refine lv_aload_n hx hb dX10_keep_5 rfl (lv_at hl 0 rfl) ?_
  refine va_get (D := G.1) (ci := 9) (v := .ref q_t_kept) (C := RX10) (T := TX10) (N := 21) hx hb hts wi_X10_keep_X10 hown hK hP 0 rfl rfl 4 (by decide) (hts _ wd_X10_keep_2) (fun _ h9 => h9) rfl dX10_keep_6 ?_
  refine lv_iconst (v := 0) hx hb dX10_keep_9 (by decide) ?_
  refine lv_bipush (v := 50) hx hb dX10_keep_10 (by decide) ?_
  obtain ⟨t_kept_1, hf_2, h⟩ := bd_ok h
  refine ck_Sv (rest := []) (wn := [(q_t, .inr (9, [.ref q_t_z, .ref q_t_old, .ref q_t_past, .int t_states, .ref q_t_kept, .int t_isKept, .ref q_t_text, .int t_length, .ref q_t_order, .ref q_t_told, .int t_spot, .int t_toldRows, .ref q_t_rowsTaken, .ref q_t_columnsTaken, .ref q_t_ways, .ref q_t_scaled, .ref q_t_rowFactors, .ref q_t_columnFactors, .ref q_t_rest, .ref q_t_diagonals, .ref q_t_weights])), (q_t_z, .inl (G.2 0, 50, .inl t_z)), (q_t_kept, .inl (G.2 0, 50, .inl t_kept_1))]) ⟨hx, hb, hml, hown, hts⟩ hK hP hD hS hA [1, 2] [0] [0, 1, 2] (c_X10_copyRow l G q_t_z q_t_kept _ 50 50 t_z t_kept (0 : Int32) (0 : Int32) (50 : Int32) _ hf_2) (cwS 5 hts gX10_keep_X10_copyRow rfl rfl rfl (by decide +kernel) ⟨Nat.le_of_ble_eq_true rfl, Nat.le_of_ble_eq_true rfl⟩) rfl rfl rfl rfl (by decide) rfl rfl rfl hl.1 rfl (Nat.le_of_ble_eq_true rfl) dX10_keep_12 ⟨Nat.zero_le _, Nat.zero_le _⟩ (fun H locs hP hD hS => ?_)
  refine lv_aload_n hx hb dX10_keep_15 rfl (lv_at hl 0 rfl) ?_
  refine lv_iconst (v := 1) hx hb dX10_keep_16 (by decide) ?_
  refine st_put (D := G.1) (ci := 9) (v := .int (1 : Int32)) (ty := .boolean) (C := RX10) (T := TX10) (N := 21) (wn := [(q_t, .inr (9, [.ref q_t_z, .ref q_t_old, .ref q_t_past, .int t_states, .ref q_t_kept, .int (1 : Int32), .ref q_t_text, .int t_length, .ref q_t_order, .ref q_t_told, .int t_spot, .int t_toldRows, .ref q_t_rowsTaken, .ref q_t_columnsTaken, .ref q_t_ways, .ref q_t_scaled, .ref q_t_rowFactors, .ref q_t_columnFactors, .ref q_t_rest, .ref q_t_diagonals, .ref q_t_weights])), (q_t_z, .inl (G.2 0, 50, .inl t_z)), (q_t_kept, .inl (G.2 0, 50, .inl t_kept_1))]) hx hb hts wi_X10_keep_X10 tyX10 tyX10_ok nmX10 hown hK hP hD hS 0 rfl rfl 5 (by decide) (hts _ wd_X10_keep_3) (fun _ h9 => h9) rfl (by decide +kernel) rfl rfl (Nat.le_of_ble_eq_true rfl) dX10_keep_17 rfl (fun H locs hP hD hS => ?_)
  refine lv_aload_n hx hb dX10_keep_20 rfl (lv_at hl 0 rfl) ?_
  refine va_get (D := G.1) (ci := 9) (v := .ref q_t_z) (C := RX10) (T := TX10) (N := 21) hx hb hts wi_X10_keep_X10 hown hK hP 0 rfl rfl 0 (by decide) (hts _ wd_X10_keep_1) (fun _ h9 => h9) rfl dX10_keep_21 ?_
  refine lv_bipush (v := 49) hx hb dX10_keep_24 (by decide) ?_
  obtain ⟨g_3, h⟩ := gd_ok h
  refine va_iald (D := G.1) hx hb hK hP 1 0 rfl rfl g_3 dX10_keep_26 ?_
  obtain ⟨rfl, rfl, rfl⟩ := sm3 h
  exact KR H locs ls 27 dX10_keep_27 hP hD hS
set_option maxHeartbeats 4000000 in
set_option maxRecDepth 100000 in
theorem c_X10_keep (l : Launch) (G : GT) (q_t q_t_z q_t_old q_t_past q_t_kept q_t_text q_t_order q_t_told q_t_rowsTaken q_t_columnsTaken q_t_ways q_t_scaled q_t_rowFactors q_t_columnFactors q_t_rest q_t_diagonals q_t_weights : Nat) (sz : Nat) (t_states : Int32) (t_isKept : Int32) (t_length : Int32) (t_spot : Int32) (t_toldRows : Int32) (t_z : Nat → Int32) (t_kept : Nat → Int32) (r : Int32) (o_t_isKept : Int32) (o_t_kept : Nat → Int32) (h : f_X10_keep t_isKept t_z t_kept = some (r, o_t_isKept, o_t_kept)) : Met l yX10_keep wsX10_keep ({ frames := 1, cells := 0, slots := 0, locals := 25 } : Room) (va_Pc [.ref q_t] (pcW G [(q_t, .inr (9, [.ref q_t_z, .ref q_t_old, .ref q_t_past, .int t_states, .ref q_t_kept, .int t_isKept, .ref q_t_text, .int t_length, .ref q_t_order, .ref q_t_told, .int t_spot, .int t_toldRows, .ref q_t_rowsTaken, .ref q_t_columnsTaken, .ref q_t_ways, .ref q_t_scaled, .ref q_t_rowFactors, .ref q_t_columnFactors, .ref q_t_rest, .ref q_t_diagonals, .ref q_t_weights])), (q_t_z, .inl (G.2 0, 50, .inl t_z)), (q_t_kept, .inl (G.2 0, 50, .inl t_kept))] sz)) (va_Qi (fun r9 (_ : Unit) => r9 = r) (fun _ t => atW G (va_A [(q_t, .inr (9, [.ref q_t_z, .ref q_t_old, .ref q_t_past, .int t_states, .ref q_t_kept, .int t_isKept, .ref q_t_text, .int t_length, .ref q_t_order, .ref q_t_told, .int t_spot, .int t_toldRows, .ref q_t_rowsTaken, .ref q_t_columnsTaken, .ref q_t_ways, .ref q_t_scaled, .ref q_t_rowFactors, .ref q_t_columnFactors, .ref q_t_rest, .ref q_t_diagonals, .ref q_t_weights])), (q_t_z, .inl (G.2 0, 50, .inl t_z)), (q_t_kept, .inl (G.2 0, 50, .inl t_kept))] sz) [(q_t, .inr (9, [.ref q_t_z, .ref q_t_old, .ref q_t_past, .int t_states, .ref q_t_kept, .int o_t_isKept, .ref q_t_text, .int t_length, .ref q_t_order, .ref q_t_told, .int t_spot, .int t_toldRows, .ref q_t_rowsTaken, .ref q_t_columnsTaken, .ref q_t_ways, .ref q_t_scaled, .ref q_t_rowFactors, .ref q_t_columnFactors, .ref q_t_rest, .ref q_t_diagonals, .ref q_t_weights])), (q_t_z, .inl (G.2 0, 50, .inl t_z)), (q_t_kept, .inl (G.2 0, 50, .inl o_t_kept))] t) (va_A [(q_t, .inr (9, [.ref q_t_z, .ref q_t_old, .ref q_t_past, .int t_states, .ref q_t_kept, .int t_isKept, .ref q_t_text, .int t_length, .ref q_t_order, .ref q_t_told, .int t_spot, .int t_toldRows, .ref q_t_rowsTaken, .ref q_t_columnsTaken, .ref q_t_ways, .ref q_t_scaled, .ref q_t_rowFactors, .ref q_t_columnFactors, .ref q_t_rest, .ref q_t_diagonals, .ref q_t_weights])), (q_t_z, .inl (G.2 0, 50, .inl t_z)), (q_t_kept, .inl (G.2 0, 50, .inl t_kept))] sz)) 0 0 (va_A [(q_t, .inr (9, [.ref q_t_z, .ref q_t_old, .ref q_t_past, .int t_states, .ref q_t_kept, .int t_isKept, .ref q_t_text, .int t_length, .ref q_t_order, .ref q_t_told, .int t_spot, .int t_toldRows, .ref q_t_rowsTaken, .ref q_t_columnsTaken, .ref q_t_ways, .ref q_t_scaled, .ref q_t_rowFactors, .ref q_t_columnFactors, .ref q_t_rest, .ref q_t_diagonals, .ref q_t_weights])), (q_t_z, .inl (G.2 0, 50, .inl t_z)), (q_t_kept, .inl (G.2 0, 50, .inl t_kept))] sz) := by
  refine Met.ofW (cc := cX10_keep) (maxL := 1) (ret := (some .int)) (by decide) rfl ?_
  intro p e s m args below meth c s₁ B hml hv
  obtain ⟨rfl, hsz, hP, hK, hD0⟩ := hv
  subst hsz
  have hD := hD0.self (sz := s.heap.size)
  generalize hAe : va_A [(q_t, .inr (9, [.ref q_t_z, .ref q_t_old, .ref q_t_past, .int t_states, .ref q_t_kept, .int t_isKept, .ref q_t_text, .int t_length, .ref q_t_order, .ref q_t_told, .int t_spot, .int t_toldRows, .ref q_t_rowsTaken, .ref q_t_columnsTaken, .ref q_t_ways, .ref q_t_scaled, .ref q_t_rowFactors, .ref q_t_columnFactors, .ref q_t_rest, .ref q_t_diagonals, .ref q_t_weights])), (q_t_z, .inl (G.2 0, 50, .inl t_z)), (q_t_kept, .inl (G.2 0, 50, .inl t_kept))] s.heap.size = A at hD ⊢
  have hA : ∀ q : Nat, s.heap.size ≤ q → A q := fun q h => by rw [← hAe]; exact Or.inr h
  have hl := lv_entry ([.ref q_t]) (n := 1) (Nat.le_of_ble_eq_true rfl)
  rw [lg_entry_eq]
  refine k_X10_keep ⟨B.exec, B.bytes, hml, findClass_of_methodNamed B.named, atoms_spec (ws := wsX10_keep) B.pre⟩ G hK hA q_t q_t_z q_t_old q_t_past q_t_kept q_t_text q_t_order q_t_told q_t_rowsTaken q_t_columnsTaken q_t_ways q_t_scaled q_t_rowFactors q_t_columnFactors q_t_rest q_t_diagonals q_t_weights _ _ _ _ _ _ _ _ _ _ h ?_ _ _ _ hP hD va_S.rf hl
  intro H locs ls pc hd hP hD hS
  exact W.iret B.exec B.bytes B.returns (fun t ht hW => ⟨⟨r, (), rfl, rfl, by rw [ht]; exact hP, hD⟩, hS.F ht⟩) hS.2.2 hd B.notSynchronized
set_option maxRecDepth 20000 in
theorem wd_X10_restore_1 : Cond.fieldLink RX10 76 "PermanentDeskModel" "isKept" "Z" ∈ wsX10_restore := List.mem_of_getElem? (i := 1) (by decide +kernel)
set_option maxRecDepth 20000 in
theorem wi_X10_restore_X10 : ∀ w ∈ u_ws RX10 TX10 21, w ∈ wsX10_restore := by decide +kernel
set_option maxRecDepth 20000 in
theorem wd_X10_restore_3 : Cond.fieldLink RX10 19 "PermanentDeskModel" "kept" "[I" ∈ wsX10_restore := List.mem_of_getElem? (i := 3) (by decide +kernel)
set_option maxRecDepth 20000 in
theorem wd_X10_restore_4 : Cond.fieldLink RX10 7 "PermanentDeskModel" "z" "[I" ∈ wsX10_restore := List.mem_of_getElem? (i := 4) (by decide +kernel)
set_option maxRecDepth 20000 in
theorem wd_X10_restore_2 : Cond.constant RX10 75 (-2000000005) ∈ wsX10_restore := List.mem_of_getElem? (i := 2) (by decide +kernel)
def f_X10_restore (t_states : Int32) (t_isKept : Int32) (t_z : Nat → Int32) (t_past : Nat → Int32) (t_kept : Nat → Int32) : Option (Int32 × Int32 × (Nat → Int32) × (Nat → Int32)) :=
  if t_isKept = 0 then
    some ((-2000000005 : Int32), t_states, t_z, t_past)
  else
    (f_X10_record t_states t_z t_past).bind (fun (t_states_2, t_past_3) =>
    (f_X10_copyRow 50 50 t_kept t_z (0 : Int32) (0 : Int32) (50 : Int32)).bind (fun t_z_5 =>
    gd (okI (49 : Int32) 50) (
    some ((t_z_5 (49 : Int32).toNatClampNeg), t_states_2, t_z_5, t_past_3))))
set_option maxHeartbeats 4000000 in
set_option maxRecDepth 100000 in
theorem k_X10_restore {p : Program} {l : Launch} {e : Env} {s : State} {m : MethodId} {args : Array Value} {below : List Frame} {meth : Method} {c : Code} {Q : State → Prop} {A0 : Nat → Prop} {H0 : Heap} (C : CallFix p m c cX10_restore 1 s args wsX10_restore RX10) (G : GT) (hK : gK G s) (hA : ∀ q : Nat, H0.size ≤ q → A0 q) (q_t q_t_z q_t_old q_t_past q_t_kept q_t_text q_t_order q_t_told q_t_rowsTaken q_t_columnsTaken q_t_ways q_t_scaled q_t_rowFactors q_t_columnFactors q_t_rest q_t_diagonals q_t_weights : Nat) (t_states : Int32) (t_isKept : Int32) (t_length : Int32) (t_spot : Int32) (t_toldRows : Int32) (t_z : Nat → Int32) (t_past : Nat → Int32) (t_kept : Nat → Int32) (r : Int32) (o_t_states : Int32) (o_t_z : Nat → Int32) (o_t_past : Nat → Int32) (h : f_X10_restore t_states t_isKept t_z t_past t_kept = some (r, o_t_states, o_t_z, o_t_past)) (KR : ∀ (H : Heap) (locs : List Loc) (ls : Array Slot) (pc : Nat), decode cX10_restore pc = .ok (.ireturn, 1) → va_P G.1 vwCl [(q_t, .inr (9, [.ref q_t_z, .ref q_t_old, .ref q_t_past, .int o_t_states, .ref q_t_kept, .int t_isKept, .ref q_t_text, .int t_length, .ref q_t_order, .ref q_t_told, .int t_spot, .int t_toldRows, .ref q_t_rowsTaken, .ref q_t_columnsTaken, .ref q_t_ways, .ref q_t_scaled, .ref q_t_rowFactors, .ref q_t_columnFactors, .ref q_t_rest, .ref q_t_diagonals, .ref q_t_weights])), (q_t_z, .inl (G.2 0, 50, .inl o_t_z)), (q_t_past, .inl (G.2 0, 200, .inl o_t_past)), (q_t_kept, .inl (G.2 0, 50, .inl t_kept))] H → va_D A0 [(q_t, .inr (9, [.ref q_t_z, .ref q_t_old, .ref q_t_past, .int o_t_states, .ref q_t_kept, .int t_isKept, .ref q_t_text, .int t_length, .ref q_t_order, .ref q_t_told, .int t_spot, .int t_toldRows, .ref q_t_rowsTaken, .ref q_t_columnsTaken, .ref q_t_ways, .ref q_t_scaled, .ref q_t_rowFactors, .ref q_t_columnFactors, .ref q_t_rest, .ref q_t_diagonals, .ref q_t_weights])), (q_t_z, .inl (G.2 0, 50, .inl o_t_z)), (q_t_past, .inl (G.2 0, 200, .inl o_t_past)), (q_t_kept, .inl (G.2 0, 50, .inl t_kept))] → va_S A0 H0 H locs → W p l e ({ frames := 3, cells := 0, slots := 0, locals := 66 } : Room) s m args below meth c H locs 0 0 Q (F0 m pc ls [.int r])) : ∀ (H : Heap) (locs : List Loc) (ls : Array Slot), va_P G.1 vwCl [(q_t, .inr (9, [.ref q_t_z, .ref q_t_old, .ref q_t_past, .int t_states, .ref q_t_kept, .int t_isKept, .ref q_t_text, .int t_length, .ref q_t_order, .ref q_t_told, .int t_spot, .int t_toldRows, .ref q_t_rowsTaken, .ref q_t_columnsTaken, .ref q_t_ways, .ref q_t_scaled, .ref q_t_rowFactors, .ref q_t_columnFactors, .ref q_t_rest, .ref q_t_diagonals, .ref q_t_weights])), (q_t_z, .inl (G.2 0, 50, .inl t_z)), (q_t_past, .inl (G.2 0, 200, .inl t_past)), (q_t_kept, .inl (G.2 0, 50, .inl t_kept))] H → va_D A0 [(q_t, .inr (9, [.ref q_t_z, .ref q_t_old, .ref q_t_past, .int t_states, .ref q_t_kept, .int t_isKept, .ref q_t_text, .int t_length, .ref q_t_order, .ref q_t_told, .int t_spot, .int t_toldRows, .ref q_t_rowsTaken, .ref q_t_columnsTaken, .ref q_t_ways, .ref q_t_scaled, .ref q_t_rowFactors, .ref q_t_columnFactors, .ref q_t_rest, .ref q_t_diagonals, .ref q_t_weights])), (q_t_z, .inl (G.2 0, 50, .inl t_z)), (q_t_past, .inl (G.2 0, 200, .inl t_past)), (q_t_kept, .inl (G.2 0, 50, .inl t_kept))] → va_S A0 H0 H locs → lv_has ls 1 [(0, .ref q_t)] → W p l e ({ frames := 3, cells := 0, slots := 0, locals := 66 } : Room) s m args below meth c H locs 0 0 Q (F0 m 0 ls []) := by
  obtain ⟨hx, hb, hml, hown, hts⟩ := C
  intro H locs ls hP hD hS hl
  rw [f_X10_restore] at h
  refine lv_aload_n hx hb dX10_restore_0 rfl (lv_at hl 0 rfl) ?_
  refine va_get (D := G.1) (ci := 9) (v := .int t_isKept) (C := RX10) (T := TX10) (N := 21) hx hb hts wi_X10_restore_X10 hown hK hP 0 rfl rfl 5 (by decide) (hts _ wd_X10_restore_1) (fun _ h9 => h9) rfl dX10_restore_1 ?_
  refine lv_if_ne (tgt := 10) hx hb dX10_restore_4 (by decide) (fun c_1 => ?_) (fun c_1 => ?_)
  · replace h := it_f h c_1
    refine lv_aload_n hx hb dX10_restore_10 rfl (lv_at hl 0 rfl) ?_
    obtain ⟨⟨t_states_2, t_past_3⟩, hf_4, h⟩ := bd_ok h
    refine ck_Vv (rest := []) (wn := [(q_t, .inr (9, [.ref q_t_z, .ref q_t_old, .ref q_t_past, .int t_states_2, .ref q_t_kept, .int t_isKept, .ref q_t_text, .int t_length, .ref q_t_order, .ref q_t_told, .int t_spot, .int t_toldRows, .ref q_t_rowsTaken, .ref q_t_columnsTaken, .ref q_t_ways, .ref q_t_scaled, .ref q_t_rowFactors, .ref q_t_columnFactors, .ref q_t_rest, .ref q_t_diagonals, .ref q_t_weights])), (q_t_z, .inl (G.2 0, 50, .inl t_z)), (q_t_past, .inl (G.2 0, 200, .inl t_past_3)), (q_t_kept, .inl (G.2 0, 50, .inl t_kept))]) ⟨hx, hb, hml, hown, hts⟩ hK hP hD hS hA [0, 1, 2] [3] [1, 2, 3, 0] (c_X10_record l G q_t q_t_z q_t_old q_t_past q_t_kept q_t_text q_t_order q_t_told q_t_rowsTaken q_t_columnsTaken q_t_ways q_t_scaled q_t_rowFactors q_t_columnFactors q_t_rest q_t_diagonals q_t_weights _ t_states t_isKept t_length t_spot t_toldRows t_z t_past _ _ hf_4) (cwV 0 hts gX10_restore_X10_record rfl rfl rfl (by decide +kernel) ⟨Nat.le_of_ble_eq_true rfl, Nat.le_of_ble_eq_true rfl⟩) rfl rfl rfl rfl rfl rfl (by decide) rfl rfl rfl hl.1 rfl (Nat.le_of_ble_eq_true rfl) dX10_restore_11 ⟨Nat.zero_le _, Nat.zero_le _⟩ (fun H locs hP hD hS => ?_)
    refine lv_aload_n hx hb dX10_restore_14 rfl (lv_at hl 0 rfl) ?_
    refine va_get (D := G.1) (ci := 9) (v := .ref q_t_kept) (C := RX10) (T := TX10) (N := 21) hx hb hts wi_X10_restore_X10 hown hK hP 0 rfl rfl 4 (by decide) (hts _ wd_X10_restore_3) (fun _ h9 => h9) rfl dX10_restore_15 ?_
    refine lv_iconst (v := 0) hx hb dX10_restore_18 (by decide) ?_
    refine lv_aload_n hx hb dX10_restore_19 rfl (lv_at hl 0 rfl) ?_
    refine va_get (D := G.1) (ci := 9) (v := .ref q_t_z) (C := RX10) (T := TX10) (N := 21) hx hb hts wi_X10_restore_X10 hown hK hP 0 rfl rfl 0 (by decide) (hts _ wd_X10_restore_4) (fun _ h9 => h9) rfl dX10_restore_20 ?_
    refine lv_iconst (v := 0) hx hb dX10_restore_23 (by decide) ?_
    refine lv_bipush (v := 50) hx hb dX10_restore_24 (by decide) ?_
    obtain ⟨t_z_5, hf_6, h⟩ := bd_ok h
    refine ck_Sv (rest := []) (wn := [(q_t, .inr (9, [.ref q_t_z, .ref q_t_old, .ref q_t_past, .int t_states_2, .ref q_t_kept, .int t_isKept, .ref q_t_text, .int t_length, .ref q_t_order, .ref q_t_told, .int t_spot, .int t_toldRows, .ref q_t_rowsTaken, .ref q_t_columnsTaken, .ref q_t_ways, .ref q_t_scaled, .ref q_t_rowFactors, .ref q_t_columnFactors, .ref q_t_rest, .ref q_t_diagonals, .ref q_t_weights])), (q_t_z, .inl (G.2 0, 50, .inl t_z_5)), (q_t_past, .inl (G.2 0, 200, .inl t_past_3)), (q_t_kept, .inl (G.2 0, 50, .inl t_kept))]) ⟨hx, hb, hml, hown, hts⟩ hK hP hD hS hA [3, 1] [0, 2] [0, 3, 1, 2] (c_X10_copyRow l G q_t_kept q_t_z _ 50 50 t_kept t_z (0 : Int32) (0 : Int32) (50 : Int32) _ hf_6) (cwS 5 hts gX10_restore_X10_copyRow rfl rfl rfl (by decide +kernel) ⟨Nat.le_of_ble_eq_true rfl, Nat.le_of_ble_eq_true rfl⟩) rfl rfl rfl rfl (by decide) rfl rfl rfl hl.1 rfl (Nat.le_of_ble_eq_true rfl) dX10_restore_26 ⟨Nat.zero_le _, Nat.zero_le _⟩ (fun H locs hP hD hS => ?_)
    refine lv_aload_n hx hb dX10_restore_29 rfl (lv_at hl 0 rfl) ?_
    refine va_get (D := G.1) (ci := 9) (v := .ref q_t_z) (C := RX10) (T := TX10) (N := 21) hx hb hts wi_X10_restore_X10 hown hK hP 0 rfl rfl 0 (by decide) (hts _ wd_X10_restore_4) (fun _ h9 => h9) rfl dX10_restore_30 ?_
    refine lv_bipush (v := 49) hx hb dX10_restore_33 (by decide) ?_
    obtain ⟨g_7, h⟩ := gd_ok h
    refine va_iald (D := G.1) hx hb hK hP 1 0 rfl rfl g_7 dX10_restore_35 ?_
    obtain ⟨rfl, rfl, rfl, rfl⟩ := sm4 h
    exact KR H locs ls 36 dX10_restore_36 hP hD hS
  · replace h := it_t h c_1
    refine lv_ldc (v := -2000000005) hx hb hown (hts _ wd_X10_restore_2) dX10_restore_7 ?_
    obtain ⟨rfl, rfl, rfl, rfl⟩ := sm4 h
    exact KR H locs ls 9 dX10_restore_9 hP hD hS
set_option maxHeartbeats 4000000 in
set_option maxRecDepth 100000 in
theorem c_X10_restore (l : Launch) (G : GT) (q_t q_t_z q_t_old q_t_past q_t_kept q_t_text q_t_order q_t_told q_t_rowsTaken q_t_columnsTaken q_t_ways q_t_scaled q_t_rowFactors q_t_columnFactors q_t_rest q_t_diagonals q_t_weights : Nat) (sz : Nat) (t_states : Int32) (t_isKept : Int32) (t_length : Int32) (t_spot : Int32) (t_toldRows : Int32) (t_z : Nat → Int32) (t_past : Nat → Int32) (t_kept : Nat → Int32) (r : Int32) (o_t_states : Int32) (o_t_z : Nat → Int32) (o_t_past : Nat → Int32) (h : f_X10_restore t_states t_isKept t_z t_past t_kept = some (r, o_t_states, o_t_z, o_t_past)) : Met l yX10_restore wsX10_restore ({ frames := 3, cells := 0, slots := 0, locals := 66 } : Room) (va_Pc [.ref q_t] (pcW G [(q_t, .inr (9, [.ref q_t_z, .ref q_t_old, .ref q_t_past, .int t_states, .ref q_t_kept, .int t_isKept, .ref q_t_text, .int t_length, .ref q_t_order, .ref q_t_told, .int t_spot, .int t_toldRows, .ref q_t_rowsTaken, .ref q_t_columnsTaken, .ref q_t_ways, .ref q_t_scaled, .ref q_t_rowFactors, .ref q_t_columnFactors, .ref q_t_rest, .ref q_t_diagonals, .ref q_t_weights])), (q_t_z, .inl (G.2 0, 50, .inl t_z)), (q_t_past, .inl (G.2 0, 200, .inl t_past)), (q_t_kept, .inl (G.2 0, 50, .inl t_kept))] sz)) (va_Qi (fun r9 (_ : Unit) => r9 = r) (fun _ t => atW G (va_A [(q_t, .inr (9, [.ref q_t_z, .ref q_t_old, .ref q_t_past, .int t_states, .ref q_t_kept, .int t_isKept, .ref q_t_text, .int t_length, .ref q_t_order, .ref q_t_told, .int t_spot, .int t_toldRows, .ref q_t_rowsTaken, .ref q_t_columnsTaken, .ref q_t_ways, .ref q_t_scaled, .ref q_t_rowFactors, .ref q_t_columnFactors, .ref q_t_rest, .ref q_t_diagonals, .ref q_t_weights])), (q_t_z, .inl (G.2 0, 50, .inl t_z)), (q_t_past, .inl (G.2 0, 200, .inl t_past)), (q_t_kept, .inl (G.2 0, 50, .inl t_kept))] sz) [(q_t, .inr (9, [.ref q_t_z, .ref q_t_old, .ref q_t_past, .int o_t_states, .ref q_t_kept, .int t_isKept, .ref q_t_text, .int t_length, .ref q_t_order, .ref q_t_told, .int t_spot, .int t_toldRows, .ref q_t_rowsTaken, .ref q_t_columnsTaken, .ref q_t_ways, .ref q_t_scaled, .ref q_t_rowFactors, .ref q_t_columnFactors, .ref q_t_rest, .ref q_t_diagonals, .ref q_t_weights])), (q_t_z, .inl (G.2 0, 50, .inl o_t_z)), (q_t_past, .inl (G.2 0, 200, .inl o_t_past)), (q_t_kept, .inl (G.2 0, 50, .inl t_kept))] t) (va_A [(q_t, .inr (9, [.ref q_t_z, .ref q_t_old, .ref q_t_past, .int t_states, .ref q_t_kept, .int t_isKept, .ref q_t_text, .int t_length, .ref q_t_order, .ref q_t_told, .int t_spot, .int t_toldRows, .ref q_t_rowsTaken, .ref q_t_columnsTaken, .ref q_t_ways, .ref q_t_scaled, .ref q_t_rowFactors, .ref q_t_columnFactors, .ref q_t_rest, .ref q_t_diagonals, .ref q_t_weights])), (q_t_z, .inl (G.2 0, 50, .inl t_z)), (q_t_past, .inl (G.2 0, 200, .inl t_past)), (q_t_kept, .inl (G.2 0, 50, .inl t_kept))] sz)) 0 0 (va_A [(q_t, .inr (9, [.ref q_t_z, .ref q_t_old, .ref q_t_past, .int t_states, .ref q_t_kept, .int t_isKept, .ref q_t_text, .int t_length, .ref q_t_order, .ref q_t_told, .int t_spot, .int t_toldRows, .ref q_t_rowsTaken, .ref q_t_columnsTaken, .ref q_t_ways, .ref q_t_scaled, .ref q_t_rowFactors, .ref q_t_columnFactors, .ref q_t_rest, .ref q_t_diagonals, .ref q_t_weights])), (q_t_z, .inl (G.2 0, 50, .inl t_z)), (q_t_past, .inl (G.2 0, 200, .inl t_past)), (q_t_kept, .inl (G.2 0, 50, .inl t_kept))] sz) := by
  refine Met.ofW (cc := cX10_restore) (maxL := 1) (ret := (some .int)) (by decide) rfl ?_
  intro p e s m args below meth c s₁ B hml hv
  obtain ⟨rfl, hsz, hP, hK, hD0⟩ := hv
  subst hsz
  have hD := hD0.self (sz := s.heap.size)
  generalize hAe : va_A [(q_t, .inr (9, [.ref q_t_z, .ref q_t_old, .ref q_t_past, .int t_states, .ref q_t_kept, .int t_isKept, .ref q_t_text, .int t_length, .ref q_t_order, .ref q_t_told, .int t_spot, .int t_toldRows, .ref q_t_rowsTaken, .ref q_t_columnsTaken, .ref q_t_ways, .ref q_t_scaled, .ref q_t_rowFactors, .ref q_t_columnFactors, .ref q_t_rest, .ref q_t_diagonals, .ref q_t_weights])), (q_t_z, .inl (G.2 0, 50, .inl t_z)), (q_t_past, .inl (G.2 0, 200, .inl t_past)), (q_t_kept, .inl (G.2 0, 50, .inl t_kept))] s.heap.size = A at hD ⊢
  have hA : ∀ q : Nat, s.heap.size ≤ q → A q := fun q h => by rw [← hAe]; exact Or.inr h
  have hl := lv_entry ([.ref q_t]) (n := 1) (Nat.le_of_ble_eq_true rfl)
  rw [lg_entry_eq]
  refine k_X10_restore ⟨B.exec, B.bytes, hml, findClass_of_methodNamed B.named, atoms_spec (ws := wsX10_restore) B.pre⟩ G hK hA q_t q_t_z q_t_old q_t_past q_t_kept q_t_text q_t_order q_t_told q_t_rowsTaken q_t_columnsTaken q_t_ways q_t_scaled q_t_rowFactors q_t_columnFactors q_t_rest q_t_diagonals q_t_weights _ _ _ _ _ _ _ _ _ _ _ _ h ?_ _ _ _ hP hD va_S.rf hl
  intro H locs ls pc hd hP hD hS
  exact W.iret B.exec B.bytes B.returns (fun t ht hW => ⟨⟨r, (), rfl, rfl, by rw [ht]; exact hP, hD⟩, hS.F ht⟩) hS.2.2 hd B.notSynchronized
set_option maxRecDepth 20000 in
theorem wd_X10_clearAll_1 : Cond.fieldLink RX10 7 "PermanentDeskModel" "z" "[I" ∈ wsX10_clearAll := List.mem_of_getElem? (i := 1) (by decide +kernel)
set_option maxRecDepth 20000 in
theorem wi_X10_clearAll_X10 : ∀ w ∈ u_ws RX10 TX10 21, w ∈ wsX10_clearAll := by decide +kernel
def f_X10_clearAll_L1  : (Int32 × (Nat → Int32)) → Option ((Int32 × (Nat → Int32)) ⊕ (Nat → Int32))
  | (x2, t_z) =>
    if (50 : Int32) ≤ x2 then
      some (.inr t_z)
    else
      gd (okI x2 50) (
      pl ((upd t_z x2.toNatClampNeg (0 : Int32)) : Nat → Int32) (fun t_z_3 =>
      pl ((x2 + (1 : Int32)) : Int32) (fun x2_4 =>
      some (.inl (x2_4, t_z_3)))))
def f_X10_clearAll (t_z : Nat → Int32) (a1 : Int32) : Option (Nat → Int32) :=
  (lpN (f_X10_clearAll_L1) FU ((0 : Int32), t_z)).bind (fun t_z_5 =>
  gd (okI (49 : Int32) 50) (
  pl ((upd t_z_5 (49 : Int32).toNatClampNeg a1) : Nat → Int32) (fun t_z_9 =>
  some t_z_9)))
set_option maxHeartbeats 4000000 in
set_option maxRecDepth 100000 in
theorem l_X10_clearAll_1 {p : Program} {l : Launch} {e : Env} {s : State} {m : MethodId} {args : Array Value} {below : List Frame} {meth : Method} {c : Code} {Q : State → Prop} {A0 : Nat → Prop} {H0 : Heap} (C : CallFix p m c cX10_clearAll 3 s args wsX10_clearAll RX10) (G : GT) (hK : gK G s) (hA : ∀ q : Nat, H0.size ≤ q → A0 q) (q_t q_t_z q_t_old q_t_past q_t_kept q_t_text q_t_order q_t_told q_t_rowsTaken q_t_columnsTaken q_t_ways q_t_scaled q_t_rowFactors q_t_columnFactors q_t_rest q_t_diagonals q_t_weights : Nat) (x1 : Int32) (t_states : Int32) (t_isKept : Int32) (t_length : Int32) (t_spot : Int32) (t_toldRows : Int32) (E_t_z : Nat → Int32) (K : ∀ (H : Heap) (locs : List Loc) (ls : Array Slot), va_P G.1 vwCl [(q_t, .inr (9, [.ref q_t_z, .ref q_t_old, .ref q_t_past, .int t_states, .ref q_t_kept, .int t_isKept, .ref q_t_text, .int t_length, .ref q_t_order, .ref q_t_told, .int t_spot, .int t_toldRows, .ref q_t_rowsTaken, .ref q_t_columnsTaken, .ref q_t_ways, .ref q_t_scaled, .ref q_t_rowFactors, .ref q_t_columnFactors, .ref q_t_rest, .ref q_t_diagonals, .ref q_t_weights])), (q_t_z, .inl (G.2 0, 50, .inl E_t_z))] H → va_D A0 [(q_t, .inr (9, [.ref q_t_z, .ref q_t_old, .ref q_t_past, .int t_states, .ref q_t_kept, .int t_isKept, .ref q_t_text, .int t_length, .ref q_t_order, .ref q_t_told, .int t_spot, .int t_toldRows, .ref q_t_rowsTaken, .ref q_t_columnsTaken, .ref q_t_ways, .ref q_t_scaled, .ref q_t_rowFactors, .ref q_t_columnFactors, .ref q_t_rest, .ref q_t_diagonals, .ref q_t_weights])), (q_t_z, .inl (G.2 0, 50, .inl E_t_z))] → va_S A0 H0 H locs → lv_has ls 3 [(0, .ref q_t), (1, .int x1)] → W p l e ({ frames := 0, cells := 0, slots := 0, locals := 0 } : Room) s m args below meth c H locs 0 0 Q (F0 m 21 ls [])) : ∀ (n : Nat) (x2 : Int32) (t_z : Nat → Int32), lpN (f_X10_clearAll_L1) n (x2, t_z) = some E_t_z → ∀ (H : Heap) (locs : List Loc) (ls : Array Slot), va_P G.1 vwCl [(q_t, .inr (9, [.ref q_t_z, .ref q_t_old, .ref q_t_past, .int t_states, .ref q_t_kept, .int t_isKept, .ref q_t_text, .int t_length, .ref q_t_order, .ref q_t_told, .int t_spot, .int t_toldRows, .ref q_t_rowsTaken, .ref q_t_columnsTaken, .ref q_t_ways, .ref q_t_scaled, .ref q_t_rowFactors, .ref q_t_columnFactors, .ref q_t_rest, .ref q_t_diagonals, .ref q_t_weights])), (q_t_z, .inl (G.2 0, 50, .inl t_z))] H → va_D A0 [(q_t, .inr (9, [.ref q_t_z, .ref q_t_old, .ref q_t_past, .int t_states, .ref q_t_kept, .int t_isKept, .ref q_t_text, .int t_length, .ref q_t_order, .ref q_t_told, .int t_spot, .int t_toldRows, .ref q_t_rowsTaken, .ref q_t_columnsTaken, .ref q_t_ways, .ref q_t_scaled, .ref q_t_rowFactors, .ref q_t_columnFactors, .ref q_t_rest, .ref q_t_diagonals, .ref q_t_weights])), (q_t_z, .inl (G.2 0, 50, .inl t_z))] → va_S A0 H0 H locs → lv_has ls 3 [(0, .ref q_t), (1, .int x1), (2, .int x2)] → W p l e ({ frames := 0, cells := 0, slots := 0, locals := 0 } : Room) s m args below meth c H locs 0 0 Q (F0 m 2 ls []) := by
  obtain ⟨hx, hb, hml, hown, hts⟩ := C
  intro n
  induction n with
  | zero => intro x2 t_z h; exact absurd h (fun h => lp_0 h)
  | succ n ih =>
    intro x2 t_z h H locs ls hP hD hS hl
    obtain ⟨y, h, hk⟩ := lp_s h
    rw [f_X10_clearAll_L1] at h
    refine lv_iload_n hx hb dX10_clearAll_2 rfl (lv_at hl 2 rfl) ?_
    refine lv_bipush (v := 50) hx hb dX10_clearAll_3 (by decide) ?_
    refine lv_icmp_ge (tgt := 21) hx hb dX10_clearAll_5 (by decide) (fun c_1 => ?_) (fun c_1 => ?_)
    · replace h := it_t h c_1
      obtain rfl := sm1 h
      obtain rfl := sm1 hk
      exact K H locs ls hP hD hS (lv_sub hl [0, 1] rfl)
    · replace h := it_f h c_1
      refine lv_aload_n hx hb dX10_clearAll_8 rfl (lv_at hl 0 rfl) ?_
      refine va_get (D := G.1) (ci := 9) (v := .ref q_t_z) (C := RX10) (T := TX10) (N := 21) hx hb hts wi_X10_clearAll_X10 hown hK hP 0 rfl rfl 0 (by decide) (hts _ wd_X10_clearAll_1) (fun _ h9 => h9) rfl dX10_clearAll_9 ?_
      refine lv_iload_n hx hb dX10_clearAll_12 rfl (lv_at hl 2 rfl) ?_
      refine lv_iconst (v := 0) hx hb dX10_clearAll_13 (by decide) ?_
      obtain ⟨g_2, h⟩ := gd_ok h
      obtain ⟨t_z_3, et_z_3, h⟩ := pl_ok h
      refine st_i (D := G.1) (wn := [(q_t, .inr (9, [.ref q_t_z, .ref q_t_old, .ref q_t_past, .int t_states, .ref q_t_kept, .int t_isKept, .ref q_t_text, .int t_length, .ref q_t_order, .ref q_t_told, .int t_spot, .int t_toldRows, .ref q_t_rowsTaken, .ref q_t_columnsTaken, .ref q_t_ways, .ref q_t_scaled, .ref q_t_rowFactors, .ref q_t_columnFactors, .ref q_t_rest, .ref q_t_diagonals, .ref q_t_weights])), (q_t_z, .inl (G.2 0, 50, .inl t_z_3))]) hx hb hK hP hD hS 1 0 rfl rfl g_2 dX10_clearAll_14 et_z_3 rfl (fun H locs hP hD hS => ?_)
      obtain ⟨x2_4, ex2_4, h⟩ := pl_ok h
      refine lv_iinc (v := x2_4) (lv' := [(2, .int x2_4), (0, .ref q_t), (1, .int x1)]) hx hb dX10_clearAll_15 hl (k := 2) rfl (by rw [ex2_4]; rfl) (by decide) rfl (fun ls hl => ?_)
      refine lv_goto (tgt := 2) hx hb dX10_clearAll_18 (by decide) ?_
      obtain rfl := sm1 h
      exact ih x2_4 t_z_3 hk H locs ls hP hD hS (lv_sub hl [1, 2, 0] rfl)
set_option maxHeartbeats 4000000 in
set_option maxRecDepth 100000 in
theorem k_X10_clearAll {p : Program} {l : Launch} {e : Env} {s : State} {m : MethodId} {args : Array Value} {below : List Frame} {meth : Method} {c : Code} {Q : State → Prop} {A0 : Nat → Prop} {H0 : Heap} (C : CallFix p m c cX10_clearAll 3 s args wsX10_clearAll RX10) (G : GT) (hK : gK G s) (hA : ∀ q : Nat, H0.size ≤ q → A0 q) (q_t q_t_z q_t_old q_t_past q_t_kept q_t_text q_t_order q_t_told q_t_rowsTaken q_t_columnsTaken q_t_ways q_t_scaled q_t_rowFactors q_t_columnFactors q_t_rest q_t_diagonals q_t_weights : Nat) (t_states : Int32) (t_isKept : Int32) (t_length : Int32) (t_spot : Int32) (t_toldRows : Int32) (t_z : Nat → Int32) (a1 : Int32) (o_t_z : Nat → Int32) (h : f_X10_clearAll t_z a1 = some o_t_z) (KR : ∀ (H : Heap) (locs : List Loc) (ls : Array Slot) (pc : Nat), decode cX10_clearAll pc = .ok (.return_, 1) → va_P G.1 vwCl [(q_t, .inr (9, [.ref q_t_z, .ref q_t_old, .ref q_t_past, .int t_states, .ref q_t_kept, .int t_isKept, .ref q_t_text, .int t_length, .ref q_t_order, .ref q_t_told, .int t_spot, .int t_toldRows, .ref q_t_rowsTaken, .ref q_t_columnsTaken, .ref q_t_ways, .ref q_t_scaled, .ref q_t_rowFactors, .ref q_t_columnFactors, .ref q_t_rest, .ref q_t_diagonals, .ref q_t_weights])), (q_t_z, .inl (G.2 0, 50, .inl o_t_z))] H → va_D A0 [(q_t, .inr (9, [.ref q_t_z, .ref q_t_old, .ref q_t_past, .int t_states, .ref q_t_kept, .int t_isKept, .ref q_t_text, .int t_length, .ref q_t_order, .ref q_t_told, .int t_spot, .int t_toldRows, .ref q_t_rowsTaken, .ref q_t_columnsTaken, .ref q_t_ways, .ref q_t_scaled, .ref q_t_rowFactors, .ref q_t_columnFactors, .ref q_t_rest, .ref q_t_diagonals, .ref q_t_weights])), (q_t_z, .inl (G.2 0, 50, .inl o_t_z))] → va_S A0 H0 H locs → W p l e ({ frames := 0, cells := 0, slots := 0, locals := 0 } : Room) s m args below meth c H locs 0 0 Q (F0 m pc ls [])) : ∀ (H : Heap) (locs : List Loc) (ls : Array Slot), va_P G.1 vwCl [(q_t, .inr (9, [.ref q_t_z, .ref q_t_old, .ref q_t_past, .int t_states, .ref q_t_kept, .int t_isKept, .ref q_t_text, .int t_length, .ref q_t_order, .ref q_t_told, .int t_spot, .int t_toldRows, .ref q_t_rowsTaken, .ref q_t_columnsTaken, .ref q_t_ways, .ref q_t_scaled, .ref q_t_rowFactors, .ref q_t_columnFactors, .ref q_t_rest, .ref q_t_diagonals, .ref q_t_weights])), (q_t_z, .inl (G.2 0, 50, .inl t_z))] H → va_D A0 [(q_t, .inr (9, [.ref q_t_z, .ref q_t_old, .ref q_t_past, .int t_states, .ref q_t_kept, .int t_isKept, .ref q_t_text, .int t_length, .ref q_t_order, .ref q_t_told, .int t_spot, .int t_toldRows, .ref q_t_rowsTaken, .ref q_t_columnsTaken, .ref q_t_ways, .ref q_t_scaled, .ref q_t_rowFactors, .ref q_t_columnFactors, .ref q_t_rest, .ref q_t_diagonals, .ref q_t_weights])), (q_t_z, .inl (G.2 0, 50, .inl t_z))] → va_S A0 H0 H locs → lv_has ls 3 [(0, .ref q_t), (1, .int a1)] → W p l e ({ frames := 0, cells := 0, slots := 0, locals := 0 } : Room) s m args below meth c H locs 0 0 Q (F0 m 0 ls []) := by
  obtain ⟨hx, hb, hml, hown, hts⟩ := C
  intro H locs ls hP hD hS hl
  rw [f_X10_clearAll] at h
  refine lv_iconst (v := 0) hx hb dX10_clearAll_0 (by decide) ?_
  refine lv_istore_n (lv' := [(2, .int (0 : Int32)), (0, .ref q_t), (1, .int a1)]) hx hb dX10_clearAll_1 rfl hl (by decide) rfl (fun ls hl => ?_)
  obtain ⟨t_z_5, hz_7, h⟩ := bd_ok h
  refine l_X10_clearAll_1 ⟨hx, hb, hml, hown, hts⟩ G hK hA q_t q_t_z q_t_old q_t_past q_t_kept q_t_text q_t_order q_t_told q_t_rowsTaken q_t_columnsTaken q_t_ways q_t_scaled q_t_rowFactors q_t_columnFactors q_t_rest q_t_diagonals q_t_weights a1 t_states t_isKept t_length t_spot t_toldRows t_z_5 ?_ FU (0 : Int32) t_z hz_7 H locs ls hP hD hS (lv_sub hl [1, 2, 0] rfl)
  intro H locs ls hP hD hS hl
  refine lv_aload_n hx hb dX10_clearAll_21 rfl (lv_at hl 0 rfl) ?_
  refine va_get (D := G.1) (ci := 9) (v := .ref q_t_z) (C := RX10) (T := TX10) (N := 21) hx hb hts wi_X10_clearAll_X10 hown hK hP 0 rfl rfl 0 (by decide) (hts _ wd_X10_clearAll_1) (fun _ h9 => h9) rfl dX10_clearAll_22 ?_
  refine lv_bipush (v := 49) hx hb dX10_clearAll_25 (by decide) ?_
  refine lv_iload_n hx hb dX10_clearAll_27 rfl (lv_at hl 1 rfl) ?_
  obtain ⟨g_8, h⟩ := gd_ok h
  obtain ⟨t_z_9, et_z_9, h⟩ := pl_ok h
  refine st_i (D := G.1) (wn := [(q_t, .inr (9, [.ref q_t_z, .ref q_t_old, .ref q_t_past, .int t_states, .ref q_t_kept, .int t_isKept, .ref q_t_text, .int t_length, .ref q_t_order, .ref q_t_told, .int t_spot, .int t_toldRows, .ref q_t_rowsTaken, .ref q_t_columnsTaken, .ref q_t_ways, .ref q_t_scaled, .ref q_t_rowFactors, .ref q_t_columnFactors, .ref q_t_rest, .ref q_t_diagonals, .ref q_t_weights])), (q_t_z, .inl (G.2 0, 50, .inl t_z_9))]) hx hb hK hP hD hS 1 0 rfl rfl g_8 dX10_clearAll_28 et_z_9 rfl (fun H locs hP hD hS => ?_)
  obtain rfl := sm1 h
  exact KR H locs ls 29 dX10_clearAll_29 hP hD hS
set_option maxHeartbeats 4000000 in
set_option maxRecDepth 100000 in
theorem c_X10_clearAll (l : Launch) (G : GT) (q_t q_t_z q_t_old q_t_past q_t_kept q_t_text q_t_order q_t_told q_t_rowsTaken q_t_columnsTaken q_t_ways q_t_scaled q_t_rowFactors q_t_columnFactors q_t_rest q_t_diagonals q_t_weights : Nat) (sz : Nat) (t_states : Int32) (t_isKept : Int32) (t_length : Int32) (t_spot : Int32) (t_toldRows : Int32) (t_z : Nat → Int32) (a1 : Int32) (o_t_z : Nat → Int32) (h : f_X10_clearAll t_z a1 = some o_t_z) : Met l yX10_clearAll wsX10_clearAll ({ frames := 0, cells := 0, slots := 0, locals := 0 } : Room) (va_Pc [.ref q_t, .int a1] (pcW G [(q_t, .inr (9, [.ref q_t_z, .ref q_t_old, .ref q_t_past, .int t_states, .ref q_t_kept, .int t_isKept, .ref q_t_text, .int t_length, .ref q_t_order, .ref q_t_told, .int t_spot, .int t_toldRows, .ref q_t_rowsTaken, .ref q_t_columnsTaken, .ref q_t_ways, .ref q_t_scaled, .ref q_t_rowFactors, .ref q_t_columnFactors, .ref q_t_rest, .ref q_t_diagonals, .ref q_t_weights])), (q_t_z, .inl (G.2 0, 50, .inl t_z))] sz)) (va_Qv (fun (_ : Unit) => True) (fun _ t => atW G (va_A [(q_t, .inr (9, [.ref q_t_z, .ref q_t_old, .ref q_t_past, .int t_states, .ref q_t_kept, .int t_isKept, .ref q_t_text, .int t_length, .ref q_t_order, .ref q_t_told, .int t_spot, .int t_toldRows, .ref q_t_rowsTaken, .ref q_t_columnsTaken, .ref q_t_ways, .ref q_t_scaled, .ref q_t_rowFactors, .ref q_t_columnFactors, .ref q_t_rest, .ref q_t_diagonals, .ref q_t_weights])), (q_t_z, .inl (G.2 0, 50, .inl t_z))] sz) [(q_t, .inr (9, [.ref q_t_z, .ref q_t_old, .ref q_t_past, .int t_states, .ref q_t_kept, .int t_isKept, .ref q_t_text, .int t_length, .ref q_t_order, .ref q_t_told, .int t_spot, .int t_toldRows, .ref q_t_rowsTaken, .ref q_t_columnsTaken, .ref q_t_ways, .ref q_t_scaled, .ref q_t_rowFactors, .ref q_t_columnFactors, .ref q_t_rest, .ref q_t_diagonals, .ref q_t_weights])), (q_t_z, .inl (G.2 0, 50, .inl o_t_z))] t) (va_A [(q_t, .inr (9, [.ref q_t_z, .ref q_t_old, .ref q_t_past, .int t_states, .ref q_t_kept, .int t_isKept, .ref q_t_text, .int t_length, .ref q_t_order, .ref q_t_told, .int t_spot, .int t_toldRows, .ref q_t_rowsTaken, .ref q_t_columnsTaken, .ref q_t_ways, .ref q_t_scaled, .ref q_t_rowFactors, .ref q_t_columnFactors, .ref q_t_rest, .ref q_t_diagonals, .ref q_t_weights])), (q_t_z, .inl (G.2 0, 50, .inl t_z))] sz)) 0 0 (va_A [(q_t, .inr (9, [.ref q_t_z, .ref q_t_old, .ref q_t_past, .int t_states, .ref q_t_kept, .int t_isKept, .ref q_t_text, .int t_length, .ref q_t_order, .ref q_t_told, .int t_spot, .int t_toldRows, .ref q_t_rowsTaken, .ref q_t_columnsTaken, .ref q_t_ways, .ref q_t_scaled, .ref q_t_rowFactors, .ref q_t_columnFactors, .ref q_t_rest, .ref q_t_diagonals, .ref q_t_weights])), (q_t_z, .inl (G.2 0, 50, .inl t_z))] sz) := by
  refine Met.ofW (cc := cX10_clearAll) (maxL := 3) (ret := none) (by decide) rfl ?_
  intro p e s m args below meth c s₁ B hml hv
  obtain ⟨rfl, hsz, hP, hK, hD0⟩ := hv
  subst hsz
  have hD := hD0.self (sz := s.heap.size)
  generalize hAe : va_A [(q_t, .inr (9, [.ref q_t_z, .ref q_t_old, .ref q_t_past, .int t_states, .ref q_t_kept, .int t_isKept, .ref q_t_text, .int t_length, .ref q_t_order, .ref q_t_told, .int t_spot, .int t_toldRows, .ref q_t_rowsTaken, .ref q_t_columnsTaken, .ref q_t_ways, .ref q_t_scaled, .ref q_t_rowFactors, .ref q_t_columnFactors, .ref q_t_rest, .ref q_t_diagonals, .ref q_t_weights])), (q_t_z, .inl (G.2 0, 50, .inl t_z))] s.heap.size = A at hD ⊢
  have hA : ∀ q : Nat, s.heap.size ≤ q → A q := fun q h => by rw [← hAe]; exact Or.inr h
  have hl := lv_entry ([.ref q_t, .int a1]) (n := 3) (Nat.le_of_ble_eq_true rfl)
  rw [lg_entry_eq]
  refine k_X10_clearAll ⟨B.exec, B.bytes, hml, findClass_of_methodNamed B.named, atoms_spec (ws := wsX10_clearAll) B.pre⟩ G hK hA q_t q_t_z q_t_old q_t_past q_t_kept q_t_text q_t_order q_t_told q_t_rowsTaken q_t_columnsTaken q_t_ways q_t_scaled q_t_rowFactors q_t_columnFactors q_t_rest q_t_diagonals q_t_weights _ _ _ _ _ _ _ _ h ?_ _ _ _ hP hD va_S.rf hl
  intro H locs ls pc hd hP hD hS
  exact W.vret B.exec B.bytes B.returns (fun t ht hW => ⟨⟨(), rfl, trivial, by rw [ht]; exact hP, hD⟩, hS.F ht⟩) hS.2.2 hd B.notSynchronized
