set_option maxRecDepth 20000 in
theorem wd_X3_count_1 : Cond.fieldLink RX3 22 "PermanentDesk$History" "count" "I" ∈ wsX3_count := List.mem_of_getElem? (i := 1) (by decide +kernel)
set_option maxRecDepth 20000 in
theorem wi_X3_count_X3 : ∀ w ∈ u_ws RX3 TX3 3, w ∈ wsX3_count := by decide +kernel
def f_X3_count (t_count : Int32) : Option Int32 :=
  some t_count
set_option maxHeartbeats 4000000 in
set_option maxRecDepth 100000 in
theorem k_X3_count {p : Program} {l : Launch} {e : Env} {s : State} {m : MethodId} {args : Array Value} {below : List Frame} {meth : Method} {c : Code} {Q : State → Prop} {A0 : Nat → Prop} {H0 : Heap} (C : CallFix p m c cX3_count 1 s args wsX3_count RX3) (G : GT) (hK : gK G s) (hA : ∀ q : Nat, H0.size ≤ q → A0 q) (q_t q_t_states : Nat) (t_oldest : Int32) (t_count : Int32) (r : Int32) (h : f_X3_count t_count = some r) (KR : ∀ (H : Heap) (locs : List Loc) (ls : Array Slot) (pc : Nat), decode cX3_count pc = .ok (.ireturn, 1) → va_P G.1 vwCl [(q_t, .inr (2, [.ref q_t_states, .int t_oldest, .int t_count]))] H → va_D A0 [(q_t, .inr (2, [.ref q_t_states, .int t_oldest, .int t_count]))] → va_S A0 H0 H locs → W p l e ({ frames := 0, cells := 0, slots := 0, locals := 0 } : Room) s m args below meth c H locs 0 0 Q (F0 m pc ls [.int r])) : ∀ (H : Heap) (locs : List Loc) (ls : Array Slot), va_P G.1 vwCl [(q_t, .inr (2, [.ref q_t_states, .int t_oldest, .int t_count]))] H → va_D A0 [(q_t, .inr (2, [.ref q_t_states, .int t_oldest, .int t_count]))] → va_S A0 H0 H locs → lv_has ls 1 [(0, .ref q_t)] → W p l e ({ frames := 0, cells := 0, slots := 0, locals := 0 } : Room) s m args below meth c H locs 0 0 Q (F0 m 0 ls []) := by
  obtain ⟨hx, hb, hml, hown, hts⟩ := C
  intro H locs ls hP hD hS hl
  rw [f_X3_count] at h
  refine lv_aload_n hx hb dX3_count_0 rfl (lv_at hl 0 rfl) ?_
  refine va_get (D := G.1) (ci := 2) (v := .int t_count) (C := RX3) (T := TX3) (N := 3) hx hb hts wi_X3_count_X3 hown hK hP 0 rfl rfl 2 (by decide) (hts _ wd_X3_count_1) (fun _ h9 => h9) rfl dX3_count_1 ?_
  obtain rfl := sm1 h
  exact KR H locs ls 4 dX3_count_4 hP hD hS
set_option maxHeartbeats 4000000 in
set_option maxRecDepth 100000 in
theorem c_X3_count (l : Launch) (G : GT) (q_t q_t_states : Nat) (sz : Nat) (t_oldest : Int32) (t_count : Int32) (r : Int32) (h : f_X3_count t_count = some r) : Met l yX3_count wsX3_count ({ frames := 0, cells := 0, slots := 0, locals := 0 } : Room) (va_Pc [.ref q_t] (pcW G [(q_t, .inr (2, [.ref q_t_states, .int t_oldest, .int t_count]))] sz)) (va_Qi (fun r9 (_ : Unit) => r9 = r) (fun _ t => atW G (va_A [(q_t, .inr (2, [.ref q_t_states, .int t_oldest, .int t_count]))] sz) [(q_t, .inr (2, [.ref q_t_states, .int t_oldest, .int t_count]))] t) (va_A [(q_t, .inr (2, [.ref q_t_states, .int t_oldest, .int t_count]))] sz)) 0 0 (va_A [(q_t, .inr (2, [.ref q_t_states, .int t_oldest, .int t_count]))] sz) := by
  refine Met.ofW (cc := cX3_count) (maxL := 1) (ret := (some .int)) (by decide) rfl ?_
  intro p e s m args below meth c s₁ B hml hv
  obtain ⟨rfl, hsz, hP, hK, hD0⟩ := hv
  subst hsz
  have hD := hD0.self (sz := s.heap.size)
  generalize hAe : va_A [(q_t, .inr (2, [.ref q_t_states, .int t_oldest, .int t_count]))] s.heap.size = A at hD ⊢
  have hA : ∀ q : Nat, s.heap.size ≤ q → A q := fun q h => by rw [← hAe]; exact Or.inr h
  have hl := lv_entry ([.ref q_t]) (n := 1) (Nat.le_of_ble_eq_true rfl)
  rw [lg_entry_eq]
  refine k_X3_count ⟨B.exec, B.bytes, hml, findClass_of_methodNamed B.named, atoms_spec (ws := wsX3_count) B.pre⟩ G hK hA q_t q_t_states _ _ _ h ?_ _ _ _ hP hD va_S.rf hl
  intro H locs ls pc hd hP hD hS
  exact W.iret B.exec B.bytes B.returns (fun t ht hW => ⟨⟨r, (), rfl, rfl, by rw [ht]; exact hP, hD⟩, hS.F ht⟩) hS.2.2 hd B.notSynchronized
set_option maxRecDepth 20000 in
theorem wd_X3_placeOf_1 : Cond.fieldLink RX3 18 "PermanentDesk$History" "oldest" "I" ∈ wsX3_placeOf := List.mem_of_getElem? (i := 1) (by decide +kernel)
set_option maxRecDepth 20000 in
theorem wi_X3_placeOf_X3 : ∀ w ∈ u_ws RX3 TX3 3, w ∈ wsX3_placeOf := by decide +kernel
set_option maxRecDepth 20000 in
theorem wd_X3_placeOf_2 : Cond.fieldLink RX3 11 "PermanentDesk$History" "states" "[LPermanentDesk$Matrix;" ∈ wsX3_placeOf := List.mem_of_getElem? (i := 2) (by decide +kernel)
def f_X3_placeOf (t_oldest : Int32) (a1 : Int32) : Option Int32 :=
  pl (((t_oldest + a1) - (t_oldest + a1) / (4 : Int32) * (4 : Int32)) : Int32) (fun x2_1 =>
  if x2_1 < 0 then
    none
  else
    if (4 : Int32) ≤ x2_1 then
      none
    else
      gd (okI x2_1 4) (
      some x2_1))
set_option maxHeartbeats 4000000 in
set_option maxRecDepth 100000 in
theorem k_X3_placeOf {p : Program} {l : Launch} {e : Env} {s : State} {m : MethodId} {args : Array Value} {below : List Frame} {meth : Method} {c : Code} {Q : State → Prop} {A0 : Nat → Prop} {H0 : Heap} (C : CallFix p m c cX3_placeOf 3 s args wsX3_placeOf RX3) (G : GT) (hK : gK G s) (hA : ∀ q : Nat, H0.size ≤ q → A0 q) (q_t q_t_states q_t_states_0 q_t_states_1 q_t_states_2 q_t_states_3 : Nat) (t_oldest : Int32) (t_count : Int32) (a1 : Int32) (r : Int32) (h : f_X3_placeOf t_oldest a1 = some r) (KR : ∀ (H : Heap) (locs : List Loc) (ls : Array Slot) (pc : Nat), decode cX3_placeOf pc = .ok (.areturn, 1) → va_P G.1 vwCl [(q_t, .inr (2, [.ref q_t_states, .int t_oldest, .int t_count])), (q_t_states, .inl (G.2 4, 4, .inr (.inr (.inr (.inr (st4 q_t_states_0 q_t_states_1 q_t_states_2 q_t_states_3))))))] H → va_D A0 [(q_t, .inr (2, [.ref q_t_states, .int t_oldest, .int t_count])), (q_t_states, .inl (G.2 4, 4, .inr (.inr (.inr (.inr (st4 q_t_states_0 q_t_states_1 q_t_states_2 q_t_states_3))))))] → va_S A0 H0 H locs → W p l e ({ frames := 0, cells := 0, slots := 0, locals := 0 } : Room) s m args below meth c H locs 0 0 Q (F0 m pc ls [va_rf (st4 q_t_states_0 q_t_states_1 q_t_states_2 q_t_states_3 r.toNatClampNeg)])) : ∀ (H : Heap) (locs : List Loc) (ls : Array Slot), va_P G.1 vwCl [(q_t, .inr (2, [.ref q_t_states, .int t_oldest, .int t_count])), (q_t_states, .inl (G.2 4, 4, .inr (.inr (.inr (.inr (st4 q_t_states_0 q_t_states_1 q_t_states_2 q_t_states_3))))))] H → va_D A0 [(q_t, .inr (2, [.ref q_t_states, .int t_oldest, .int t_count])), (q_t_states, .inl (G.2 4, 4, .inr (.inr (.inr (.inr (st4 q_t_states_0 q_t_states_1 q_t_states_2 q_t_states_3))))))] → va_S A0 H0 H locs → lv_has ls 3 [(0, .ref q_t), (1, .int a1)] → W p l e ({ frames := 0, cells := 0, slots := 0, locals := 0 } : Room) s m args below meth c H locs 0 0 Q (F0 m 0 ls []) := by
  obtain ⟨hx, hb, hml, hown, hts⟩ := C
  intro H locs ls hP hD hS hl
  rw [f_X3_placeOf] at h
  refine lv_aload_n hx hb dX3_placeOf_0 rfl (lv_at hl 0 rfl) ?_
  refine va_get (D := G.1) (ci := 2) (v := .int t_oldest) (C := RX3) (T := TX3) (N := 3) hx hb hts wi_X3_placeOf_X3 hown hK hP 0 rfl rfl 1 (by decide) (hts _ wd_X3_placeOf_1) (fun _ h9 => h9) rfl dX3_placeOf_1 ?_
  refine lv_iload_n hx hb dX3_placeOf_4 rfl (lv_at hl 1 rfl) ?_
  refine lv_iadd hx hb dX3_placeOf_5 ?_
  refine lv_iconst (v := 4) hx hb dX3_placeOf_6 (by decide) ?_
  refine lv_irem hx hb dX3_placeOf_7 (by decide) ?_
  refine lv_topi (fun x2_1 ex2_1 => ?_)
  replace h := pl_v h ex2_1
  refine lv_istore_n (lv' := [(2, .int x2_1), (0, .ref q_t), (1, .int a1)]) hx hb dX3_placeOf_8 rfl hl (by decide) rfl (fun ls hl => ?_)
  refine lv_iload_n hx hb dX3_placeOf_9 rfl (lv_at hl 0 rfl) ?_
  refine lv_if_lt (tgt := 31) hx hb dX3_placeOf_10 (by decide) (fun c_2 => ?_) (fun c_2 => ?_)
  · replace h := it_t h c_2
    refine lv_null hx hb dX3_placeOf_31 ?_
    cases h
  · replace h := it_f h c_2
    refine lv_iload_n hx hb dX3_placeOf_13 rfl (lv_at hl 0 rfl) ?_
    refine lv_aload_n hx hb dX3_placeOf_14 rfl (lv_at hl 1 rfl) ?_
    refine va_get (D := G.1) (ci := 2) (v := .ref q_t_states) (C := RX3) (T := TX3) (N := 3) hx hb hts wi_X3_placeOf_X3 hown hK hP 0 rfl rfl 0 (by decide) (hts _ wd_X3_placeOf_2) (fun _ h9 => h9) rfl dX3_placeOf_15 ?_
    refine va_alen (D := G.1) (v := 4) hx hb hK hP 1 4 rfl rfl rfl dX3_placeOf_18 ?_
    refine lv_icmp_ge (tgt := 31) hx hb dX3_placeOf_19 (by decide) (fun c_3 => ?_) (fun c_3 => ?_)
    · replace h := it_t h c_3
      refine lv_null hx hb dX3_placeOf_31 ?_
      cases h
    · replace h := it_f h c_3
      refine lv_aload_n hx hb dX3_placeOf_22 rfl (lv_at hl 1 rfl) ?_
      refine va_get (D := G.1) (ci := 2) (v := .ref q_t_states) (C := RX3) (T := TX3) (N := 3) hx hb hts wi_X3_placeOf_X3 hown hK hP 0 rfl rfl 0 (by decide) (hts _ wd_X3_placeOf_2) (fun _ h9 => h9) rfl dX3_placeOf_23 ?_
      refine lv_iload_n hx hb dX3_placeOf_26 rfl (lv_at hl 0 rfl) ?_
      obtain ⟨g_4, h⟩ := gd_ok h
      refine va_aldq (D := G.1) (C := "PermanentDesk$Matrix") hx hb hK hP 1 4 rfl rfl g_4 dX3_placeOf_27 ?_
      refine lv_goto (tgt := 32) hx hb dX3_placeOf_28 (by decide) ?_
      obtain rfl := sm1 h
      exact KR H locs ls 32 dX3_placeOf_32 hP hD hS
set_option maxHeartbeats 4000000 in
set_option maxRecDepth 100000 in
theorem c_X3_placeOf (l : Launch) (G : GT) (q_t q_t_states q_t_states_0 q_t_states_1 q_t_states_2 q_t_states_3 : Nat) (sz : Nat) (t_oldest : Int32) (t_count : Int32) (a1 : Int32) (r : Int32) (h : f_X3_placeOf t_oldest a1 = some r) : Met l yX3_placeOf wsX3_placeOf ({ frames := 0, cells := 0, slots := 0, locals := 0 } : Room) (va_Pc [.ref q_t, .int a1] (pcW G [(q_t, .inr (2, [.ref q_t_states, .int t_oldest, .int t_count])), (q_t_states, .inl (G.2 4, 4, .inr (.inr (.inr (.inr (st4 q_t_states_0 q_t_states_1 q_t_states_2 q_t_states_3))))))] sz)) (va_Qq (fun r9 (_ : Unit) => r9 = st4 q_t_states_0 q_t_states_1 q_t_states_2 q_t_states_3 r.toNatClampNeg) (fun _ t => atW G (va_A [(q_t, .inr (2, [.ref q_t_states, .int t_oldest, .int t_count])), (q_t_states, .inl (G.2 4, 4, .inr (.inr (.inr (.inr (st4 q_t_states_0 q_t_states_1 q_t_states_2 q_t_states_3))))))] sz) [(q_t, .inr (2, [.ref q_t_states, .int t_oldest, .int t_count])), (q_t_states, .inl (G.2 4, 4, .inr (.inr (.inr (.inr (st4 q_t_states_0 q_t_states_1 q_t_states_2 q_t_states_3))))))] t) (va_A [(q_t, .inr (2, [.ref q_t_states, .int t_oldest, .int t_count])), (q_t_states, .inl (G.2 4, 4, .inr (.inr (.inr (.inr (st4 q_t_states_0 q_t_states_1 q_t_states_2 q_t_states_3))))))] sz)) 0 0 (va_A [(q_t, .inr (2, [.ref q_t_states, .int t_oldest, .int t_count])), (q_t_states, .inl (G.2 4, 4, .inr (.inr (.inr (.inr (st4 q_t_states_0 q_t_states_1 q_t_states_2 q_t_states_3))))))] sz) := by
  refine Met.ofW (cc := cX3_placeOf) (maxL := 3) (ret := (some (.object "PermanentDesk$Matrix"))) (by decide) rfl ?_
  intro p e s m args below meth c s₁ B hml hv
  obtain ⟨rfl, hsz, hP, hK, hD0⟩ := hv
  subst hsz
  have hD := hD0.self (sz := s.heap.size)
  generalize hAe : va_A [(q_t, .inr (2, [.ref q_t_states, .int t_oldest, .int t_count])), (q_t_states, .inl (G.2 4, 4, .inr (.inr (.inr (.inr (st4 q_t_states_0 q_t_states_1 q_t_states_2 q_t_states_3))))))] s.heap.size = A at hD ⊢
  have hA : ∀ q : Nat, s.heap.size ≤ q → A q := fun q h => by rw [← hAe]; exact Or.inr h
  have hl := lv_entry ([.ref q_t, .int a1]) (n := 3) (Nat.le_of_ble_eq_true rfl)
  rw [lg_entry_eq]
  refine k_X3_placeOf ⟨B.exec, B.bytes, hml, findClass_of_methodNamed B.named, atoms_spec (ws := wsX3_placeOf) B.pre⟩ G hK hA q_t q_t_states q_t_states_0 q_t_states_1 q_t_states_2 q_t_states_3 _ _ _ _ h ?_ _ _ _ hP hD va_S.rf hl
  intro H locs ls pc hd hP hD hS
  exact W.aret B.exec B.bytes B.returns (Or.inl ⟨_, rfl⟩) (va_rf_or _) (fun t ht hW => ⟨⟨_, (), rfl, rfl, by rw [ht]; exact hP, hD⟩, hS.F ht⟩) hS.2.2 hd B.notSynchronized
set_option maxRecDepth 20000 in
theorem wd_X3_record_1 : Cond.fieldLink RX3 22 "PermanentDesk$History" "count" "I" ∈ wsX3_record := List.mem_of_getElem? (i := 1) (by decide +kernel)
set_option maxRecDepth 20000 in
theorem wi_X3_record_X3 : ∀ w ∈ u_ws RX3 TX3 3, w ∈ wsX3_record := by decide +kernel
set_option maxRecDepth 20000 in
theorem wd_X3_record_2 : Cond.fieldLink RX3 18 "PermanentDesk$History" "oldest" "I" ∈ wsX3_record := List.mem_of_getElem? (i := 2) (by decide +kernel)
def f_X3_record (t_oldest : Int32) (t_count : Int32) (t_states_0_size : Int32) (t_states_0_cells : Nat → Int32) (t_states_1_size : Int32) (t_states_1_cells : Nat → Int32) (t_states_2_size : Int32) (t_states_2_cells : Nat → Int32) (t_states_3_size : Int32) (t_states_3_cells : Nat → Int32) (a1_size : Int32) (a1_cells : Nat → Int32) : Option (Int32 × Int32 × Int32 × (Nat → Int32) × Int32 × (Nat → Int32) × Int32 × (Nat → Int32) × Int32 × (Nat → Int32)) :=
  (f_X3_placeOf t_oldest t_count).bind (fun r_1 =>
  if r_1 = (0 : Int32) then
    (f_X4_copyFrom t_states_0_size t_states_0_cells a1_size a1_cells).bind (fun (t_states_0_size_3, t_states_0_cells_4) =>
    if (4 : Int32) ≤ t_count then
      pl (((t_oldest + (1 : Int32)) - (t_oldest + (1 : Int32)) / (4 : Int32) * (4 : Int32)) : Int32) (fun t_oldest_7 =>
      some (t_oldest_7, t_count, t_states_0_size_3, t_states_0_cells_4, t_states_1_size, t_states_1_cells, t_states_2_size, t_states_2_cells, t_states_3_size, t_states_3_cells))
    else
      pl ((t_count + (1 : Int32)) : Int32) (fun t_count_8 =>
      some (t_oldest, t_count_8, t_states_0_size_3, t_states_0_cells_4, t_states_1_size, t_states_1_cells, t_states_2_size, t_states_2_cells, t_states_3_size, t_states_3_cells)))
  else
  if r_1 = (1 : Int32) then
    (f_X4_copyFrom t_states_1_size t_states_1_cells a1_size a1_cells).bind (fun (t_states_1_size_9, t_states_1_cells_10) =>
    if (4 : Int32) ≤ t_count then
      pl (((t_oldest + (1 : Int32)) - (t_oldest + (1 : Int32)) / (4 : Int32) * (4 : Int32)) : Int32) (fun t_oldest_13 =>
      some (t_oldest_13, t_count, t_states_0_size, t_states_0_cells, t_states_1_size_9, t_states_1_cells_10, t_states_2_size, t_states_2_cells, t_states_3_size, t_states_3_cells))
    else
      pl ((t_count + (1 : Int32)) : Int32) (fun t_count_14 =>
      some (t_oldest, t_count_14, t_states_0_size, t_states_0_cells, t_states_1_size_9, t_states_1_cells_10, t_states_2_size, t_states_2_cells, t_states_3_size, t_states_3_cells)))
  else
  if r_1 = (2 : Int32) then
    (f_X4_copyFrom t_states_2_size t_states_2_cells a1_size a1_cells).bind (fun (t_states_2_size_15, t_states_2_cells_16) =>
    if (4 : Int32) ≤ t_count then
      pl (((t_oldest + (1 : Int32)) - (t_oldest + (1 : Int32)) / (4 : Int32) * (4 : Int32)) : Int32) (fun t_oldest_19 =>
      some (t_oldest_19, t_count, t_states_0_size, t_states_0_cells, t_states_1_size, t_states_1_cells, t_states_2_size_15, t_states_2_cells_16, t_states_3_size, t_states_3_cells))
    else
      pl ((t_count + (1 : Int32)) : Int32) (fun t_count_20 =>
      some (t_oldest, t_count_20, t_states_0_size, t_states_0_cells, t_states_1_size, t_states_1_cells, t_states_2_size_15, t_states_2_cells_16, t_states_3_size, t_states_3_cells)))
  else
  if r_1 = (3 : Int32) then
    (f_X4_copyFrom t_states_3_size t_states_3_cells a1_size a1_cells).bind (fun (t_states_3_size_21, t_states_3_cells_22) =>
    if (4 : Int32) ≤ t_count then
      pl (((t_oldest + (1 : Int32)) - (t_oldest + (1 : Int32)) / (4 : Int32) * (4 : Int32)) : Int32) (fun t_oldest_25 =>
      some (t_oldest_25, t_count, t_states_0_size, t_states_0_cells, t_states_1_size, t_states_1_cells, t_states_2_size, t_states_2_cells, t_states_3_size_21, t_states_3_cells_22))
    else
      pl ((t_count + (1 : Int32)) : Int32) (fun t_count_26 =>
      some (t_oldest, t_count_26, t_states_0_size, t_states_0_cells, t_states_1_size, t_states_1_cells, t_states_2_size, t_states_2_cells, t_states_3_size_21, t_states_3_cells_22)))
  else
  none)
set_option maxHeartbeats 4000000 in
set_option maxRecDepth 100000 in
theorem k_X3_record {p : Program} {l : Launch} {e : Env} {s : State} {m : MethodId} {args : Array Value} {below : List Frame} {meth : Method} {c : Code} {Q : State → Prop} {A0 : Nat → Prop} {H0 : Heap} (C : CallFix p m c cX3_record 3 s args wsX3_record RX3) (G : GT) (hK : gK G s) (hA : ∀ q : Nat, H0.size ≤ q → A0 q) (q_t q_t_states q_t_states_0 q_t_states_1 q_t_states_2 q_t_states_3 q_t_states_0_cells q_t_states_1_cells q_t_states_2_cells q_t_states_3_cells q_a1 q_a1_cells : Nat) (t_oldest : Int32) (t_count : Int32) (t_states_0_size : Int32) (t_states_0_cells : Nat → Int32) (t_states_1_size : Int32) (t_states_1_cells : Nat → Int32) (t_states_2_size : Int32) (t_states_2_cells : Nat → Int32) (t_states_3_size : Int32) (t_states_3_cells : Nat → Int32) (a1_size : Int32) (a1_cells : Nat → Int32) (o_t_oldest : Int32) (o_t_count : Int32) (o_t_states_0_size : Int32) (o_t_states_0_cells : Nat → Int32) (o_t_states_1_size : Int32) (o_t_states_1_cells : Nat → Int32) (o_t_states_2_size : Int32) (o_t_states_2_cells : Nat → Int32) (o_t_states_3_size : Int32) (o_t_states_3_cells : Nat → Int32) (h : f_X3_record t_oldest t_count t_states_0_size t_states_0_cells t_states_1_size t_states_1_cells t_states_2_size t_states_2_cells t_states_3_size t_states_3_cells a1_size a1_cells = some (o_t_oldest, o_t_count, o_t_states_0_size, o_t_states_0_cells, o_t_states_1_size, o_t_states_1_cells, o_t_states_2_size, o_t_states_2_cells, o_t_states_3_size, o_t_states_3_cells)) (KR : ∀ (H : Heap) (locs : List Loc) (ls : Array Slot) (pc : Nat), decode cX3_record pc = .ok (.return_, 1) → va_P G.1 vwCl [(q_t, .inr (2, [.ref q_t_states, .int o_t_oldest, .int o_t_count])), (q_t_states, .inl (G.2 4, 4, .inr (.inr (.inr (.inr (st4 q_t_states_0 q_t_states_1 q_t_states_2 q_t_states_3)))))), (q_t_states_0, .inr (3, [.ref q_t_states_0_cells, .int o_t_states_0_size])), (q_t_states_0_cells, .inl (G.2 0, 49, .inl o_t_states_0_cells)), (q_t_states_1, .inr (3, [.ref q_t_states_1_cells, .int o_t_states_1_size])), (q_t_states_1_cells, .inl (G.2 0, 49, .inl o_t_states_1_cells)), (q_t_states_2, .inr (3, [.ref q_t_states_2_cells, .int o_t_states_2_size])), (q_t_states_2_cells, .inl (G.2 0, 49, .inl o_t_states_2_cells)), (q_t_states_3, .inr (3, [.ref q_t_states_3_cells, .int o_t_states_3_size])), (q_t_states_3_cells, .inl (G.2 0, 49, .inl o_t_states_3_cells)), (q_a1, .inr (3, [.ref q_a1_cells, .int a1_size])), (q_a1_cells, .inl (G.2 0, 49, .inl a1_cells))] H → va_D A0 [(q_t, .inr (2, [.ref q_t_states, .int o_t_oldest, .int o_t_count])), (q_t_states, .inl (G.2 4, 4, .inr (.inr (.inr (.inr (st4 q_t_states_0 q_t_states_1 q_t_states_2 q_t_states_3)))))), (q_t_states_0, .inr (3, [.ref q_t_states_0_cells, .int o_t_states_0_size])), (q_t_states_0_cells, .inl (G.2 0, 49, .inl o_t_states_0_cells)), (q_t_states_1, .inr (3, [.ref q_t_states_1_cells, .int o_t_states_1_size])), (q_t_states_1_cells, .inl (G.2 0, 49, .inl o_t_states_1_cells)), (q_t_states_2, .inr (3, [.ref q_t_states_2_cells, .int o_t_states_2_size])), (q_t_states_2_cells, .inl (G.2 0, 49, .inl o_t_states_2_cells)), (q_t_states_3, .inr (3, [.ref q_t_states_3_cells, .int o_t_states_3_size])), (q_t_states_3_cells, .inl (G.2 0, 49, .inl o_t_states_3_cells)), (q_a1, .inr (3, [.ref q_a1_cells, .int a1_size])), (q_a1_cells, .inl (G.2 0, 49, .inl a1_cells))] → va_S A0 H0 H locs → W p l e ({ frames := 2, cells := 0, slots := 0, locals := 81 } : Room) s m args below meth c H locs 0 0 Q (F0 m pc ls [])) : ∀ (H : Heap) (locs : List Loc) (ls : Array Slot), va_P G.1 vwCl [(q_t, .inr (2, [.ref q_t_states, .int t_oldest, .int t_count])), (q_t_states, .inl (G.2 4, 4, .inr (.inr (.inr (.inr (st4 q_t_states_0 q_t_states_1 q_t_states_2 q_t_states_3)))))), (q_t_states_0, .inr (3, [.ref q_t_states_0_cells, .int t_states_0_size])), (q_t_states_0_cells, .inl (G.2 0, 49, .inl t_states_0_cells)), (q_t_states_1, .inr (3, [.ref q_t_states_1_cells, .int t_states_1_size])), (q_t_states_1_cells, .inl (G.2 0, 49, .inl t_states_1_cells)), (q_t_states_2, .inr (3, [.ref q_t_states_2_cells, .int t_states_2_size])), (q_t_states_2_cells, .inl (G.2 0, 49, .inl t_states_2_cells)), (q_t_states_3, .inr (3, [.ref q_t_states_3_cells, .int t_states_3_size])), (q_t_states_3_cells, .inl (G.2 0, 49, .inl t_states_3_cells)), (q_a1, .inr (3, [.ref q_a1_cells, .int a1_size])), (q_a1_cells, .inl (G.2 0, 49, .inl a1_cells))] H → va_D A0 [(q_t, .inr (2, [.ref q_t_states, .int t_oldest, .int t_count])), (q_t_states, .inl (G.2 4, 4, .inr (.inr (.inr (.inr (st4 q_t_states_0 q_t_states_1 q_t_states_2 q_t_states_3)))))), (q_t_states_0, .inr (3, [.ref q_t_states_0_cells, .int t_states_0_size])), (q_t_states_0_cells, .inl (G.2 0, 49, .inl t_states_0_cells)), (q_t_states_1, .inr (3, [.ref q_t_states_1_cells, .int t_states_1_size])), (q_t_states_1_cells, .inl (G.2 0, 49, .inl t_states_1_cells)), (q_t_states_2, .inr (3, [.ref q_t_states_2_cells, .int t_states_2_size])), (q_t_states_2_cells, .inl (G.2 0, 49, .inl t_states_2_cells)), (q_t_states_3, .inr (3, [.ref q_t_states_3_cells, .int t_states_3_size])), (q_t_states_3_cells, .inl (G.2 0, 49, .inl t_states_3_cells)), (q_a1, .inr (3, [.ref q_a1_cells, .int a1_size])), (q_a1_cells, .inl (G.2 0, 49, .inl a1_cells))] → va_S A0 H0 H locs → lv_has ls 3 [(0, .ref q_t), (1, .ref q_a1)] → W p l e ({ frames := 2, cells := 0, slots := 0, locals := 81 } : Room) s m args below meth c H locs 0 0 Q (F0 m 0 ls []) := by
  obtain ⟨hx, hb, hml, hown, hts⟩ := C
  intro H locs ls hP hD hS hl
  rw [f_X3_record] at h
  refine lv_aload_n hx hb dX3_record_0 rfl (lv_at hl 0 rfl) ?_
  refine lv_aload_n hx hb dX3_record_1 rfl (lv_at hl 0 rfl) ?_
  refine va_get (D := G.1) (ci := 2) (v := .int t_count) (C := RX3) (T := TX3) (N := 3) hx hb hts wi_X3_record_X3 hown hK hP 0 rfl rfl 2 (by decide) (hts _ wd_X3_record_1) (fun _ h9 => h9) rfl dX3_record_2 ?_
  obtain ⟨r_1, hf_2, h⟩ := bd_ok h
  refine ck_Vq (rest := []) (wn := [(q_t, .inr (2, [.ref q_t_states, .int t_oldest, .int t_count])), (q_t_states, .inl (G.2 4, 4, .inr (.inr (.inr (.inr (st4 q_t_states_0 q_t_states_1 q_t_states_2 q_t_states_3)))))), (q_t_states_0, .inr (3, [.ref q_t_states_0_cells, .int t_states_0_size])), (q_t_states_0_cells, .inl (G.2 0, 49, .inl t_states_0_cells)), (q_t_states_1, .inr (3, [.ref q_t_states_1_cells, .int t_states_1_size])), (q_t_states_1_cells, .inl (G.2 0, 49, .inl t_states_1_cells)), (q_t_states_2, .inr (3, [.ref q_t_states_2_cells, .int t_states_2_size])), (q_t_states_2_cells, .inl (G.2 0, 49, .inl t_states_2_cells)), (q_t_states_3, .inr (3, [.ref q_t_states_3_cells, .int t_states_3_size])), (q_t_states_3_cells, .inl (G.2 0, 49, .inl t_states_3_cells)), (q_a1, .inr (3, [.ref q_a1_cells, .int a1_size])), (q_a1_cells, .inl (G.2 0, 49, .inl a1_cells))]) ⟨hx, hb, hml, hown, hts⟩ hK hP hD hS hA [0, 1] [2, 3, 4, 5, 6, 7, 8, 9, 10, 11] [10, 11, 0, 1, 2, 3, 4, 5, 6, 7, 8, 9] (c_X3_placeOf l G q_t q_t_states q_t_states_0 q_t_states_1 q_t_states_2 q_t_states_3 _ t_oldest t_count t_count _ hf_2) (cwV 1 hts gX3_record_X3_placeOf rfl rfl rfl (by decide +kernel) ⟨Nat.le_of_ble_eq_true rfl, Nat.le_of_ble_eq_true rfl⟩) rfl rfl rfl rfl rfl rfl (by decide) rfl rfl rfl hl.1 rfl (Nat.le_of_ble_eq_true rfl) dX3_record_5 ⟨Nat.zero_le _, Nat.zero_le _⟩ (fun H locs hP hD hS => ?_)
  by_cases hc0 : r_1 = (0 : Int32)
  · replace h := it_t h hc0
    subst hc0
    rw [show va_rf (st4 q_t_states_0 q_t_states_1 q_t_states_2 q_t_states_3 ((0 : Int32)).toNatClampNeg) = Value.ref q_t_states_0 from rfl]
    refine lv_astore_n (lv' := [(2, .ref q_t_states_0), (0, .ref q_t), (1, .ref q_a1)]) hx hb dX3_record_8 rfl hl (by decide) rfl (fun ls hl => ?_)
    refine lv_aload_n hx hb dX3_record_9 rfl (lv_at hl 0 rfl) ?_
    refine lv_ifnonnull (tgt := 14) hx hb dX3_record_10 (by decide) ?_
    refine lv_aload_n hx hb dX3_record_14 rfl (lv_at hl 0 rfl) ?_
    refine lv_aload_n hx hb dX3_record_15 rfl (lv_at hl 2 rfl) ?_
    obtain ⟨⟨t_states_0_size_3, t_states_0_cells_4⟩, hf_5, h⟩ := bd_ok h
    refine ck_Vv (rest := []) (wn := [(q_t, .inr (2, [.ref q_t_states, .int t_oldest, .int t_count])), (q_t_states, .inl (G.2 4, 4, .inr (.inr (.inr (.inr (st4 q_t_states_0 q_t_states_1 q_t_states_2 q_t_states_3)))))), (q_t_states_0, .inr (3, [.ref q_t_states_0_cells, .int t_states_0_size_3])), (q_t_states_0_cells, .inl (G.2 0, 49, .inl t_states_0_cells_4)), (q_t_states_1, .inr (3, [.ref q_t_states_1_cells, .int t_states_1_size])), (q_t_states_1_cells, .inl (G.2 0, 49, .inl t_states_1_cells)), (q_t_states_2, .inr (3, [.ref q_t_states_2_cells, .int t_states_2_size])), (q_t_states_2_cells, .inl (G.2 0, 49, .inl t_states_2_cells)), (q_t_states_3, .inr (3, [.ref q_t_states_3_cells, .int t_states_3_size])), (q_t_states_3_cells, .inl (G.2 0, 49, .inl t_states_3_cells)), (q_a1, .inr (3, [.ref q_a1_cells, .int a1_size])), (q_a1_cells, .inl (G.2 0, 49, .inl a1_cells))]) ⟨hx, hb, hml, hown, hts⟩ hK hP hD hS hA [2, 3, 10, 11] [0, 1, 4, 5, 6, 7, 8, 9] [0, 1, 8, 9, 2, 3, 4, 5, 6, 7, 10, 11] (c_X4_copyFrom l G q_t_states_0 q_t_states_0_cells q_a1 q_a1_cells _ t_states_0_size t_states_0_cells a1_size a1_cells _ _ hf_5) (cwV 1 hts gX3_record_X4_copyFrom rfl rfl rfl (by decide +kernel) ⟨Nat.le_of_ble_eq_true rfl, Nat.le_of_ble_eq_true rfl⟩) rfl rfl rfl rfl rfl rfl (by decide) rfl rfl rfl hl.1 rfl (Nat.le_of_ble_eq_true rfl) dX3_record_16 ⟨Nat.zero_le _, Nat.zero_le _⟩ (fun H locs hP hD hS => ?_)
    refine lv_aload_n hx hb dX3_record_19 rfl (lv_at hl 1 rfl) ?_
    refine va_get (D := G.1) (ci := 2) (v := .int t_count) (C := RX3) (T := TX3) (N := 3) hx hb hts wi_X3_record_X3 hown hK hP 0 rfl rfl 2 (by decide) (hts _ wd_X3_record_1) (fun _ h9 => h9) rfl dX3_record_20 ?_
    refine lv_iconst (v := 4) hx hb dX3_record_23 (by decide) ?_
    refine lv_icmp_ge (tgt := 40) hx hb dX3_record_24 (by decide) (fun c_6 => ?_) (fun c_6 => ?_)
    · replace h := it_t h c_6
      refine lv_aload_n hx hb dX3_record_40 rfl (lv_at hl 1 rfl) ?_
      refine lv_aload_n hx hb dX3_record_41 rfl (lv_at hl 1 rfl) ?_
      refine va_get (D := G.1) (ci := 2) (v := .int t_oldest) (C := RX3) (T := TX3) (N := 3) hx hb hts wi_X3_record_X3 hown hK hP 0 rfl rfl 1 (by decide) (hts _ wd_X3_record_2) (fun _ h9 => h9) rfl dX3_record_42 ?_
      refine lv_iconst (v := 1) hx hb dX3_record_45 (by decide) ?_
      refine lv_iadd hx hb dX3_record_46 ?_
      refine lv_iconst (v := 4) hx hb dX3_record_47 (by decide) ?_
      refine lv_irem hx hb dX3_record_48 (by decide) ?_
      refine lv_topi (fun t_oldest_7 et_oldest_7 => ?_)
      replace h := pl_v h et_oldest_7
      refine st_put (D := G.1) (ci := 2) (v := .int t_oldest_7) (ty := .int) (C := RX3) (T := TX3) (N := 3) (wn := [(q_t, .inr (2, [.ref q_t_states, .int t_oldest_7, .int t_count])), (q_t_states, .inl (G.2 4, 4, .inr (.inr (.inr (.inr (st4 q_t_states_0 q_t_states_1 q_t_states_2 q_t_states_3)))))), (q_t_states_0, .inr (3, [.ref q_t_states_0_cells, .int t_states_0_size_3])), (q_t_states_0_cells, .inl (G.2 0, 49, .inl t_states_0_cells_4)), (q_t_states_1, .inr (3, [.ref q_t_states_1_cells, .int t_states_1_size])), (q_t_states_1_cells, .inl (G.2 0, 49, .inl t_states_1_cells)), (q_t_states_2, .inr (3, [.ref q_t_states_2_cells, .int t_states_2_size])), (q_t_states_2_cells, .inl (G.2 0, 49, .inl t_states_2_cells)), (q_t_states_3, .inr (3, [.ref q_t_states_3_cells, .int t_states_3_size])), (q_t_states_3_cells, .inl (G.2 0, 49, .inl t_states_3_cells)), (q_a1, .inr (3, [.ref q_a1_cells, .int a1_size])), (q_a1_cells, .inl (G.2 0, 49, .inl a1_cells))]) hx hb hts wi_X3_record_X3 tyX3 tyX3_ok nmX3 hown hK hP hD hS 0 rfl rfl 1 (by decide) (hts _ wd_X3_record_2) (fun _ h9 => h9) rfl (by decide +kernel) rfl rfl (Nat.le_of_ble_eq_true rfl) dX3_record_49 rfl (fun H locs hP hD hS => ?_)
      obtain ⟨rfl, rfl, rfl, rfl, rfl, rfl, rfl, rfl, rfl, rfl⟩ := sm10 h
      exact KR H locs ls 52 dX3_record_52 hP hD hS
    · replace h := it_f h c_6
      refine lv_aload_n hx hb dX3_record_27 rfl (lv_at hl 1 rfl) ?_
      refine lv_dup hx hb dX3_record_28 rfl ?_
      refine va_get (D := G.1) (ci := 2) (v := .int t_count) (C := RX3) (T := TX3) (N := 3) hx hb hts wi_X3_record_X3 hown hK hP 0 rfl rfl 2 (by decide) (hts _ wd_X3_record_1) (fun _ h9 => h9) rfl dX3_record_29 ?_
      refine lv_iconst (v := 1) hx hb dX3_record_32 (by decide) ?_
      refine lv_iadd hx hb dX3_record_33 ?_
      refine lv_topi (fun t_count_8 et_count_8 => ?_)
      replace h := pl_v h et_count_8
      refine st_put (D := G.1) (ci := 2) (v := .int t_count_8) (ty := .int) (C := RX3) (T := TX3) (N := 3) (wn := [(q_t, .inr (2, [.ref q_t_states, .int t_oldest, .int t_count_8])), (q_t_states, .inl (G.2 4, 4, .inr (.inr (.inr (.inr (st4 q_t_states_0 q_t_states_1 q_t_states_2 q_t_states_3)))))), (q_t_states_0, .inr (3, [.ref q_t_states_0_cells, .int t_states_0_size_3])), (q_t_states_0_cells, .inl (G.2 0, 49, .inl t_states_0_cells_4)), (q_t_states_1, .inr (3, [.ref q_t_states_1_cells, .int t_states_1_size])), (q_t_states_1_cells, .inl (G.2 0, 49, .inl t_states_1_cells)), (q_t_states_2, .inr (3, [.ref q_t_states_2_cells, .int t_states_2_size])), (q_t_states_2_cells, .inl (G.2 0, 49, .inl t_states_2_cells)), (q_t_states_3, .inr (3, [.ref q_t_states_3_cells, .int t_states_3_size])), (q_t_states_3_cells, .inl (G.2 0, 49, .inl t_states_3_cells)), (q_a1, .inr (3, [.ref q_a1_cells, .int a1_size])), (q_a1_cells, .inl (G.2 0, 49, .inl a1_cells))]) hx hb hts wi_X3_record_X3 tyX3 tyX3_ok nmX3 hown hK hP hD hS 0 rfl rfl 2 (by decide) (hts _ wd_X3_record_1) (fun _ h9 => h9) rfl (by decide +kernel) rfl rfl (Nat.le_of_ble_eq_true rfl) dX3_record_34 rfl (fun H locs hP hD hS => ?_)
      refine lv_goto (tgt := 52) hx hb dX3_record_37 (by decide) ?_
      obtain ⟨rfl, rfl, rfl, rfl, rfl, rfl, rfl, rfl, rfl, rfl⟩ := sm10 h
      exact KR H locs ls 52 dX3_record_52 hP hD hS
  replace h := it_f h hc0
  by_cases hc1 : r_1 = (1 : Int32)
  · replace h := it_t h hc1
    subst hc1
    rw [show va_rf (st4 q_t_states_0 q_t_states_1 q_t_states_2 q_t_states_3 ((1 : Int32)).toNatClampNeg) = Value.ref q_t_states_1 from rfl]
    refine lv_astore_n (lv' := [(2, .ref q_t_states_1), (0, .ref q_t), (1, .ref q_a1)]) hx hb dX3_record_8 rfl hl (by decide) rfl (fun ls hl => ?_)
    refine lv_aload_n hx hb dX3_record_9 rfl (lv_at hl 0 rfl) ?_
    refine lv_ifnonnull (tgt := 14) hx hb dX3_record_10 (by decide) ?_
    refine lv_aload_n hx hb dX3_record_14 rfl (lv_at hl 0 rfl) ?_
    refine lv_aload_n hx hb dX3_record_15 rfl (lv_at hl 2 rfl) ?_
    obtain ⟨⟨t_states_1_size_9, t_states_1_cells_10⟩, hf_11, h⟩ := bd_ok h
    refine ck_Vv (rest := []) (wn := [(q_t, .inr (2, [.ref q_t_states, .int t_oldest, .int t_count])), (q_t_states, .inl (G.2 4, 4, .inr (.inr (.inr (.inr (st4 q_t_states_0 q_t_states_1 q_t_states_2 q_t_states_3)))))), (q_t_states_0, .inr (3, [.ref q_t_states_0_cells, .int t_states_0_size])), (q_t_states_0_cells, .inl (G.2 0, 49, .inl t_states_0_cells)), (q_t_states_1, .inr (3, [.ref q_t_states_1_cells, .int t_states_1_size_9])), (q_t_states_1_cells, .inl (G.2 0, 49, .inl t_states_1_cells_10)), (q_t_states_2, .inr (3, [.ref q_t_states_2_cells, .int t_states_2_size])), (q_t_states_2_cells, .inl (G.2 0, 49, .inl t_states_2_cells)), (q_t_states_3, .inr (3, [.ref q_t_states_3_cells, .int t_states_3_size])), (q_t_states_3_cells, .inl (G.2 0, 49, .inl t_states_3_cells)), (q_a1, .inr (3, [.ref q_a1_cells, .int a1_size])), (q_a1_cells, .inl (G.2 0, 49, .inl a1_cells))]) ⟨hx, hb, hml, hown, hts⟩ hK hP hD hS hA [4, 5, 10, 11] [0, 1, 2, 3, 6, 7, 8, 9] [0, 1, 2, 3, 8, 9, 4, 5, 6, 7, 10, 11] (c_X4_copyFrom l G q_t_states_1 q_t_states_1_cells q_a1 q_a1_cells _ t_states_1_size t_states_1_cells a1_size a1_cells _ _ hf_11) (cwV 1 hts gX3_record_X4_copyFrom rfl rfl rfl (by decide +kernel) ⟨Nat.le_of_ble_eq_true rfl, Nat.le_of_ble_eq_true rfl⟩) rfl rfl rfl rfl rfl rfl (by decide) rfl rfl rfl hl.1 rfl (Nat.le_of_ble_eq_true rfl) dX3_record_16 ⟨Nat.zero_le _, Nat.zero_le _⟩ (fun H locs hP hD hS => ?_)
    refine lv_aload_n hx hb dX3_record_19 rfl (lv_at hl 1 rfl) ?_
    refine va_get (D := G.1) (ci := 2) (v := .int t_count) (C := RX3) (T := TX3) (N := 3) hx hb hts wi_X3_record_X3 hown hK hP 0 rfl rfl 2 (by decide) (hts _ wd_X3_record_1) (fun _ h9 => h9) rfl dX3_record_20 ?_
    refine lv_iconst (v := 4) hx hb dX3_record_23 (by decide) ?_
    refine lv_icmp_ge (tgt := 40) hx hb dX3_record_24 (by decide) (fun c_12 => ?_) (fun c_12 => ?_)
    · replace h := it_t h c_12
      refine lv_aload_n hx hb dX3_record_40 rfl (lv_at hl 1 rfl) ?_
      refine lv_aload_n hx hb dX3_record_41 rfl (lv_at hl 1 rfl) ?_
      refine va_get (D := G.1) (ci := 2) (v := .int t_oldest) (C := RX3) (T := TX3) (N := 3) hx hb hts wi_X3_record_X3 hown hK hP 0 rfl rfl 1 (by decide) (hts _ wd_X3_record_2) (fun _ h9 => h9) rfl dX3_record_42 ?_
      refine lv_iconst (v := 1) hx hb dX3_record_45 (by decide) ?_
      refine lv_iadd hx hb dX3_record_46 ?_
      refine lv_iconst (v := 4) hx hb dX3_record_47 (by decide) ?_
      refine lv_irem hx hb dX3_record_48 (by decide) ?_
      refine lv_topi (fun t_oldest_13 et_oldest_13 => ?_)
      replace h := pl_v h et_oldest_13
      refine st_put (D := G.1) (ci := 2) (v := .int t_oldest_13) (ty := .int) (C := RX3) (T := TX3) (N := 3) (wn := [(q_t, .inr (2, [.ref q_t_states, .int t_oldest_13, .int t_count])), (q_t_states, .inl (G.2 4, 4, .inr (.inr (.inr (.inr (st4 q_t_states_0 q_t_states_1 q_t_states_2 q_t_states_3)))))), (q_t_states_0, .inr (3, [.ref q_t_states_0_cells, .int t_states_0_size])), (q_t_states_0_cells, .inl (G.2 0, 49, .inl t_states_0_cells)), (q_t_states_1, .inr (3, [.ref q_t_states_1_cells, .int t_states_1_size_9])), (q_t_states_1_cells, .inl (G.2 0, 49, .inl t_states_1_cells_10)), (q_t_states_2, .inr (3, [.ref q_t_states_2_cells, .int t_states_2_size])), (q_t_states_2_cells, .inl (G.2 0, 49, .inl t_states_2_cells)), (q_t_states_3, .inr (3, [.ref q_t_states_3_cells, .int t_states_3_size])), (q_t_states_3_cells, .inl (G.2 0, 49, .inl t_states_3_cells)), (q_a1, .inr (3, [.ref q_a1_cells, .int a1_size])), (q_a1_cells, .inl (G.2 0, 49, .inl a1_cells))]) hx hb hts wi_X3_record_X3 tyX3 tyX3_ok nmX3 hown hK hP hD hS 0 rfl rfl 1 (by decide) (hts _ wd_X3_record_2) (fun _ h9 => h9) rfl (by decide +kernel) rfl rfl (Nat.le_of_ble_eq_true rfl) dX3_record_49 rfl (fun H locs hP hD hS => ?_)
      obtain ⟨rfl, rfl, rfl, rfl, rfl, rfl, rfl, rfl, rfl, rfl⟩ := sm10 h
      exact KR H locs ls 52 dX3_record_52 hP hD hS
    · replace h := it_f h c_12
      refine lv_aload_n hx hb dX3_record_27 rfl (lv_at hl 1 rfl) ?_
      refine lv_dup hx hb dX3_record_28 rfl ?_
      refine va_get (D := G.1) (ci := 2) (v := .int t_count) (C := RX3) (T := TX3) (N := 3) hx hb hts wi_X3_record_X3 hown hK hP 0 rfl rfl 2 (by decide) (hts _ wd_X3_record_1) (fun _ h9 => h9) rfl dX3_record_29 ?_
      refine lv_iconst (v := 1) hx hb dX3_record_32 (by decide) ?_
      refine lv_iadd hx hb dX3_record_33 ?_
      refine lv_topi (fun t_count_14 et_count_14 => ?_)
      replace h := pl_v h et_count_14
      refine st_put (D := G.1) (ci := 2) (v := .int t_count_14) (ty := .int) (C := RX3) (T := TX3) (N := 3) (wn := [(q_t, .inr (2, [.ref q_t_states, .int t_oldest, .int t_count_14])), (q_t_states, .inl (G.2 4, 4, .inr (.inr (.inr (.inr (st4 q_t_states_0 q_t_states_1 q_t_states_2 q_t_states_3)))))), (q_t_states_0, .inr (3, [.ref q_t_states_0_cells, .int t_states_0_size])), (q_t_states_0_cells, .inl (G.2 0, 49, .inl t_states_0_cells)), (q_t_states_1, .inr (3, [.ref q_t_states_1_cells, .int t_states_1_size_9])), (q_t_states_1_cells, .inl (G.2 0, 49, .inl t_states_1_cells_10)), (q_t_states_2, .inr (3, [.ref q_t_states_2_cells, .int t_states_2_size])), (q_t_states_2_cells, .inl (G.2 0, 49, .inl t_states_2_cells)), (q_t_states_3, .inr (3, [.ref q_t_states_3_cells, .int t_states_3_size])), (q_t_states_3_cells, .inl (G.2 0, 49, .inl t_states_3_cells)), (q_a1, .inr (3, [.ref q_a1_cells, .int a1_size])), (q_a1_cells, .inl (G.2 0, 49, .inl a1_cells))]) hx hb hts wi_X3_record_X3 tyX3 tyX3_ok nmX3 hown hK hP hD hS 0 rfl rfl 2 (by decide) (hts _ wd_X3_record_1) (fun _ h9 => h9) rfl (by decide +kernel) rfl rfl (Nat.le_of_ble_eq_true rfl) dX3_record_34 rfl (fun H locs hP hD hS => ?_)
      refine lv_goto (tgt := 52) hx hb dX3_record_37 (by decide) ?_
      obtain ⟨rfl, rfl, rfl, rfl, rfl, rfl, rfl, rfl, rfl, rfl⟩ := sm10 h
      exact KR H locs ls 52 dX3_record_52 hP hD hS
  replace h := it_f h hc1
  by_cases hc2 : r_1 = (2 : Int32)
  · replace h := it_t h hc2
    subst hc2
    rw [show va_rf (st4 q_t_states_0 q_t_states_1 q_t_states_2 q_t_states_3 ((2 : Int32)).toNatClampNeg) = Value.ref q_t_states_2 from rfl]
    refine lv_astore_n (lv' := [(2, .ref q_t_states_2), (0, .ref q_t), (1, .ref q_a1)]) hx hb dX3_record_8 rfl hl (by decide) rfl (fun ls hl => ?_)
    refine lv_aload_n hx hb dX3_record_9 rfl (lv_at hl 0 rfl) ?_
    refine lv_ifnonnull (tgt := 14) hx hb dX3_record_10 (by decide) ?_
    refine lv_aload_n hx hb dX3_record_14 rfl (lv_at hl 0 rfl) ?_
    refine lv_aload_n hx hb dX3_record_15 rfl (lv_at hl 2 rfl) ?_
    obtain ⟨⟨t_states_2_size_15, t_states_2_cells_16⟩, hf_17, h⟩ := bd_ok h
    refine ck_Vv (rest := []) (wn := [(q_t, .inr (2, [.ref q_t_states, .int t_oldest, .int t_count])), (q_t_states, .inl (G.2 4, 4, .inr (.inr (.inr (.inr (st4 q_t_states_0 q_t_states_1 q_t_states_2 q_t_states_3)))))), (q_t_states_0, .inr (3, [.ref q_t_states_0_cells, .int t_states_0_size])), (q_t_states_0_cells, .inl (G.2 0, 49, .inl t_states_0_cells)), (q_t_states_1, .inr (3, [.ref q_t_states_1_cells, .int t_states_1_size])), (q_t_states_1_cells, .inl (G.2 0, 49, .inl t_states_1_cells)), (q_t_states_2, .inr (3, [.ref q_t_states_2_cells, .int t_states_2_size_15])), (q_t_states_2_cells, .inl (G.2 0, 49, .inl t_states_2_cells_16)), (q_t_states_3, .inr (3, [.ref q_t_states_3_cells, .int t_states_3_size])), (q_t_states_3_cells, .inl (G.2 0, 49, .inl t_states_3_cells)), (q_a1, .inr (3, [.ref q_a1_cells, .int a1_size])), (q_a1_cells, .inl (G.2 0, 49, .inl a1_cells))]) ⟨hx, hb, hml, hown, hts⟩ hK hP hD hS hA [6, 7, 10, 11] [0, 1, 2, 3, 4, 5, 8, 9] [0, 1, 2, 3, 4, 5, 8, 9, 6, 7, 10, 11] (c_X4_copyFrom l G q_t_states_2 q_t_states_2_cells q_a1 q_a1_cells _ t_states_2_size t_states_2_cells a1_size a1_cells _ _ hf_17) (cwV 1 hts gX3_record_X4_copyFrom rfl rfl rfl (by decide +kernel) ⟨Nat.le_of_ble_eq_true rfl, Nat.le_of_ble_eq_true rfl⟩) rfl rfl rfl rfl rfl rfl (by decide) rfl rfl rfl hl.1 rfl (Nat.le_of_ble_eq_true rfl) dX3_record_16 ⟨Nat.zero_le _, Nat.zero_le _⟩ (fun H locs hP hD hS => ?_)
    refine lv_aload_n hx hb dX3_record_19 rfl (lv_at hl 1 rfl) ?_
    refine va_get (D := G.1) (ci := 2) (v := .int t_count) (C := RX3) (T := TX3) (N := 3) hx hb hts wi_X3_record_X3 hown hK hP 0 rfl rfl 2 (by decide) (hts _ wd_X3_record_1) (fun _ h9 => h9) rfl dX3_record_20 ?_
    refine lv_iconst (v := 4) hx hb dX3_record_23 (by decide) ?_
    refine lv_icmp_ge (tgt := 40) hx hb dX3_record_24 (by decide) (fun c_18 => ?_) (fun c_18 => ?_)
    · replace h := it_t h c_18
      refine lv_aload_n hx hb dX3_record_40 rfl (lv_at hl 1 rfl) ?_
      refine lv_aload_n hx hb dX3_record_41 rfl (lv_at hl 1 rfl) ?_
      refine va_get (D := G.1) (ci := 2) (v := .int t_oldest) (C := RX3) (T := TX3) (N := 3) hx hb hts wi_X3_record_X3 hown hK hP 0 rfl rfl 1 (by decide) (hts _ wd_X3_record_2) (fun _ h9 => h9) rfl dX3_record_42 ?_
      refine lv_iconst (v := 1) hx hb dX3_record_45 (by decide) ?_
      refine lv_iadd hx hb dX3_record_46 ?_
      refine lv_iconst (v := 4) hx hb dX3_record_47 (by decide) ?_
      refine lv_irem hx hb dX3_record_48 (by decide) ?_
      refine lv_topi (fun t_oldest_19 et_oldest_19 => ?_)
      replace h := pl_v h et_oldest_19
      refine st_put (D := G.1) (ci := 2) (v := .int t_oldest_19) (ty := .int) (C := RX3) (T := TX3) (N := 3) (wn := [(q_t, .inr (2, [.ref q_t_states, .int t_oldest_19, .int t_count])), (q_t_states, .inl (G.2 4, 4, .inr (.inr (.inr (.inr (st4 q_t_states_0 q_t_states_1 q_t_states_2 q_t_states_3)))))), (q_t_states_0, .inr (3, [.ref q_t_states_0_cells, .int t_states_0_size])), (q_t_states_0_cells, .inl (G.2 0, 49, .inl t_states_0_cells)), (q_t_states_1, .inr (3, [.ref q_t_states_1_cells, .int t_states_1_size])), (q_t_states_1_cells, .inl (G.2 0, 49, .inl t_states_1_cells)), (q_t_states_2, .inr (3, [.ref q_t_states_2_cells, .int t_states_2_size_15])), (q_t_states_2_cells, .inl (G.2 0, 49, .inl t_states_2_cells_16)), (q_t_states_3, .inr (3, [.ref q_t_states_3_cells, .int t_states_3_size])), (q_t_states_3_cells, .inl (G.2 0, 49, .inl t_states_3_cells)), (q_a1, .inr (3, [.ref q_a1_cells, .int a1_size])), (q_a1_cells, .inl (G.2 0, 49, .inl a1_cells))]) hx hb hts wi_X3_record_X3 tyX3 tyX3_ok nmX3 hown hK hP hD hS 0 rfl rfl 1 (by decide) (hts _ wd_X3_record_2) (fun _ h9 => h9) rfl (by decide +kernel) rfl rfl (Nat.le_of_ble_eq_true rfl) dX3_record_49 rfl (fun H locs hP hD hS => ?_)
      obtain ⟨rfl, rfl, rfl, rfl, rfl, rfl, rfl, rfl, rfl, rfl⟩ := sm10 h
      exact KR H locs ls 52 dX3_record_52 hP hD hS
    · replace h := it_f h c_18
      refine lv_aload_n hx hb dX3_record_27 rfl (lv_at hl 1 rfl) ?_
      refine lv_dup hx hb dX3_record_28 rfl ?_
      refine va_get (D := G.1) (ci := 2) (v := .int t_count) (C := RX3) (T := TX3) (N := 3) hx hb hts wi_X3_record_X3 hown hK hP 0 rfl rfl 2 (by decide) (hts _ wd_X3_record_1) (fun _ h9 => h9) rfl dX3_record_29 ?_
      refine lv_iconst (v := 1) hx hb dX3_record_32 (by decide) ?_
      refine lv_iadd hx hb dX3_record_33 ?_
      refine lv_topi (fun t_count_20 et_count_20 => ?_)
      replace h := pl_v h et_count_20
      refine st_put (D := G.1) (ci := 2) (v := .int t_count_20) (ty := .int) (C := RX3) (T := TX3) (N := 3) (wn := [(q_t, .inr (2, [.ref q_t_states, .int t_oldest, .int t_count_20])), (q_t_states, .inl (G.2 4, 4, .inr (.inr (.inr (.inr (st4 q_t_states_0 q_t_states_1 q_t_states_2 q_t_states_3)))))), (q_t_states_0, .inr (3, [.ref q_t_states_0_cells, .int t_states_0_size])), (q_t_states_0_cells, .inl (G.2 0, 49, .inl t_states_0_cells)), (q_t_states_1, .inr (3, [.ref q_t_states_1_cells, .int t_states_1_size])), (q_t_states_1_cells, .inl (G.2 0, 49, .inl t_states_1_cells)), (q_t_states_2, .inr (3, [.ref q_t_states_2_cells, .int t_states_2_size_15])), (q_t_states_2_cells, .inl (G.2 0, 49, .inl t_states_2_cells_16)), (q_t_states_3, .inr (3, [.ref q_t_states_3_cells, .int t_states_3_size])), (q_t_states_3_cells, .inl (G.2 0, 49, .inl t_states_3_cells)), (q_a1, .inr (3, [.ref q_a1_cells, .int a1_size])), (q_a1_cells, .inl (G.2 0, 49, .inl a1_cells))]) hx hb hts wi_X3_record_X3 tyX3 tyX3_ok nmX3 hown hK hP hD hS 0 rfl rfl 2 (by decide) (hts _ wd_X3_record_1) (fun _ h9 => h9) rfl (by decide +kernel) rfl rfl (Nat.le_of_ble_eq_true rfl) dX3_record_34 rfl (fun H locs hP hD hS => ?_)
      refine lv_goto (tgt := 52) hx hb dX3_record_37 (by decide) ?_
      obtain ⟨rfl, rfl, rfl, rfl, rfl, rfl, rfl, rfl, rfl, rfl⟩ := sm10 h
      exact KR H locs ls 52 dX3_record_52 hP hD hS
  replace h := it_f h hc2
  by_cases hc3 : r_1 = (3 : Int32)
  · replace h := it_t h hc3
    subst hc3
    rw [show va_rf (st4 q_t_states_0 q_t_states_1 q_t_states_2 q_t_states_3 ((3 : Int32)).toNatClampNeg) = Value.ref q_t_states_3 from rfl]
    refine lv_astore_n (lv' := [(2, .ref q_t_states_3), (0, .ref q_t), (1, .ref q_a1)]) hx hb dX3_record_8 rfl hl (by decide) rfl (fun ls hl => ?_)
    refine lv_aload_n hx hb dX3_record_9 rfl (lv_at hl 0 rfl) ?_
    refine lv_ifnonnull (tgt := 14) hx hb dX3_record_10 (by decide) ?_
    refine lv_aload_n hx hb dX3_record_14 rfl (lv_at hl 0 rfl) ?_
    refine lv_aload_n hx hb dX3_record_15 rfl (lv_at hl 2 rfl) ?_
    obtain ⟨⟨t_states_3_size_21, t_states_3_cells_22⟩, hf_23, h⟩ := bd_ok h
    refine ck_Vv (rest := []) (wn := [(q_t, .inr (2, [.ref q_t_states, .int t_oldest, .int t_count])), (q_t_states, .inl (G.2 4, 4, .inr (.inr (.inr (.inr (st4 q_t_states_0 q_t_states_1 q_t_states_2 q_t_states_3)))))), (q_t_states_0, .inr (3, [.ref q_t_states_0_cells, .int t_states_0_size])), (q_t_states_0_cells, .inl (G.2 0, 49, .inl t_states_0_cells)), (q_t_states_1, .inr (3, [.ref q_t_states_1_cells, .int t_states_1_size])), (q_t_states_1_cells, .inl (G.2 0, 49, .inl t_states_1_cells)), (q_t_states_2, .inr (3, [.ref q_t_states_2_cells, .int t_states_2_size])), (q_t_states_2_cells, .inl (G.2 0, 49, .inl t_states_2_cells)), (q_t_states_3, .inr (3, [.ref q_t_states_3_cells, .int t_states_3_size_21])), (q_t_states_3_cells, .inl (G.2 0, 49, .inl t_states_3_cells_22)), (q_a1, .inr (3, [.ref q_a1_cells, .int a1_size])), (q_a1_cells, .inl (G.2 0, 49, .inl a1_cells))]) ⟨hx, hb, hml, hown, hts⟩ hK hP hD hS hA [8, 9, 10, 11] [0, 1, 2, 3, 4, 5, 6, 7] [0, 1, 2, 3, 4, 5, 6, 7, 8, 9, 10, 11] (c_X4_copyFrom l G q_t_states_3 q_t_states_3_cells q_a1 q_a1_cells _ t_states_3_size t_states_3_cells a1_size a1_cells _ _ hf_23) (cwV 1 hts gX3_record_X4_copyFrom rfl rfl rfl (by decide +kernel) ⟨Nat.le_of_ble_eq_true rfl, Nat.le_of_ble_eq_true rfl⟩) rfl rfl rfl rfl rfl rfl (by decide) rfl rfl rfl hl.1 rfl (Nat.le_of_ble_eq_true rfl) dX3_record_16 ⟨Nat.zero_le _, Nat.zero_le _⟩ (fun H locs hP hD hS => ?_)
    refine lv_aload_n hx hb dX3_record_19 rfl (lv_at hl 1 rfl) ?_
    refine va_get (D := G.1) (ci := 2) (v := .int t_count) (C := RX3) (T := TX3) (N := 3) hx hb hts wi_X3_record_X3 hown hK hP 0 rfl rfl 2 (by decide) (hts _ wd_X3_record_1) (fun _ h9 => h9) rfl dX3_record_20 ?_
    refine lv_iconst (v := 4) hx hb dX3_record_23 (by decide) ?_
    refine lv_icmp_ge (tgt := 40) hx hb dX3_record_24 (by decide) (fun c_24 => ?_) (fun c_24 => ?_)
    · replace h := it_t h c_24
      refine lv_aload_n hx hb dX3_record_40 rfl (lv_at hl 1 rfl) ?_
      refine lv_aload_n hx hb dX3_record_41 rfl (lv_at hl 1 rfl) ?_
      refine va_get (D := G.1) (ci := 2) (v := .int t_oldest) (C := RX3) (T := TX3) (N := 3) hx hb hts wi_X3_record_X3 hown hK hP 0 rfl rfl 1 (by decide) (hts _ wd_X3_record_2) (fun _ h9 => h9) rfl dX3_record_42 ?_
      refine lv_iconst (v := 1) hx hb dX3_record_45 (by decide) ?_
      refine lv_iadd hx hb dX3_record_46 ?_
      refine lv_iconst (v := 4) hx hb dX3_record_47 (by decide) ?_
      refine lv_irem hx hb dX3_record_48 (by decide) ?_
      refine lv_topi (fun t_oldest_25 et_oldest_25 => ?_)
      replace h := pl_v h et_oldest_25
      refine st_put (D := G.1) (ci := 2) (v := .int t_oldest_25) (ty := .int) (C := RX3) (T := TX3) (N := 3) (wn := [(q_t, .inr (2, [.ref q_t_states, .int t_oldest_25, .int t_count])), (q_t_states, .inl (G.2 4, 4, .inr (.inr (.inr (.inr (st4 q_t_states_0 q_t_states_1 q_t_states_2 q_t_states_3)))))), (q_t_states_0, .inr (3, [.ref q_t_states_0_cells, .int t_states_0_size])), (q_t_states_0_cells, .inl (G.2 0, 49, .inl t_states_0_cells)), (q_t_states_1, .inr (3, [.ref q_t_states_1_cells, .int t_states_1_size])), (q_t_states_1_cells, .inl (G.2 0, 49, .inl t_states_1_cells)), (q_t_states_2, .inr (3, [.ref q_t_states_2_cells, .int t_states_2_size])), (q_t_states_2_cells, .inl (G.2 0, 49, .inl t_states_2_cells)), (q_t_states_3, .inr (3, [.ref q_t_states_3_cells, .int t_states_3_size_21])), (q_t_states_3_cells, .inl (G.2 0, 49, .inl t_states_3_cells_22)), (q_a1, .inr (3, [.ref q_a1_cells, .int a1_size])), (q_a1_cells, .inl (G.2 0, 49, .inl a1_cells))]) hx hb hts wi_X3_record_X3 tyX3 tyX3_ok nmX3 hown hK hP hD hS 0 rfl rfl 1 (by decide) (hts _ wd_X3_record_2) (fun _ h9 => h9) rfl (by decide +kernel) rfl rfl (Nat.le_of_ble_eq_true rfl) dX3_record_49 rfl (fun H locs hP hD hS => ?_)
      obtain ⟨rfl, rfl, rfl, rfl, rfl, rfl, rfl, rfl, rfl, rfl⟩ := sm10 h
      exact KR H locs ls 52 dX3_record_52 hP hD hS
    · replace h := it_f h c_24
      refine lv_aload_n hx hb dX3_record_27 rfl (lv_at hl 1 rfl) ?_
      refine lv_dup hx hb dX3_record_28 rfl ?_
      refine va_get (D := G.1) (ci := 2) (v := .int t_count) (C := RX3) (T := TX3) (N := 3) hx hb hts wi_X3_record_X3 hown hK hP 0 rfl rfl 2 (by decide) (hts _ wd_X3_record_1) (fun _ h9 => h9) rfl dX3_record_29 ?_
      refine lv_iconst (v := 1) hx hb dX3_record_32 (by decide) ?_
      refine lv_iadd hx hb dX3_record_33 ?_
      refine lv_topi (fun t_count_26 et_count_26 => ?_)
      replace h := pl_v h et_count_26
      refine st_put (D := G.1) (ci := 2) (v := .int t_count_26) (ty := .int) (C := RX3) (T := TX3) (N := 3) (wn := [(q_t, .inr (2, [.ref q_t_states, .int t_oldest, .int t_count_26])), (q_t_states, .inl (G.2 4, 4, .inr (.inr (.inr (.inr (st4 q_t_states_0 q_t_states_1 q_t_states_2 q_t_states_3)))))), (q_t_states_0, .inr (3, [.ref q_t_states_0_cells, .int t_states_0_size])), (q_t_states_0_cells, .inl (G.2 0, 49, .inl t_states_0_cells)), (q_t_states_1, .inr (3, [.ref q_t_states_1_cells, .int t_states_1_size])), (q_t_states_1_cells, .inl (G.2 0, 49, .inl t_states_1_cells)), (q_t_states_2, .inr (3, [.ref q_t_states_2_cells, .int t_states_2_size])), (q_t_states_2_cells, .inl (G.2 0, 49, .inl t_states_2_cells)), (q_t_states_3, .inr (3, [.ref q_t_states_3_cells, .int t_states_3_size_21])), (q_t_states_3_cells, .inl (G.2 0, 49, .inl t_states_3_cells_22)), (q_a1, .inr (3, [.ref q_a1_cells, .int a1_size])), (q_a1_cells, .inl (G.2 0, 49, .inl a1_cells))]) hx hb hts wi_X3_record_X3 tyX3 tyX3_ok nmX3 hown hK hP hD hS 0 rfl rfl 2 (by decide) (hts _ wd_X3_record_1) (fun _ h9 => h9) rfl (by decide +kernel) rfl rfl (Nat.le_of_ble_eq_true rfl) dX3_record_34 rfl (fun H locs hP hD hS => ?_)
      refine lv_goto (tgt := 52) hx hb dX3_record_37 (by decide) ?_
      obtain ⟨rfl, rfl, rfl, rfl, rfl, rfl, rfl, rfl, rfl, rfl⟩ := sm10 h
      exact KR H locs ls 52 dX3_record_52 hP hD hS
  replace h := it_f h hc3
  cases h
set_option maxHeartbeats 4000000 in
set_option maxRecDepth 100000 in
theorem c_X3_record (l : Launch) (G : GT) (q_t q_t_states q_t_states_0 q_t_states_1 q_t_states_2 q_t_states_3 q_t_states_0_cells q_t_states_1_cells q_t_states_2_cells q_t_states_3_cells q_a1 q_a1_cells : Nat) (sz : Nat) (t_oldest : Int32) (t_count : Int32) (t_states_0_size : Int32) (t_states_0_cells : Nat → Int32) (t_states_1_size : Int32) (t_states_1_cells : Nat → Int32) (t_states_2_size : Int32) (t_states_2_cells : Nat → Int32) (t_states_3_size : Int32) (t_states_3_cells : Nat → Int32) (a1_size : Int32) (a1_cells : Nat → Int32) (o_t_oldest : Int32) (o_t_count : Int32) (o_t_states_0_size : Int32) (o_t_states_0_cells : Nat → Int32) (o_t_states_1_size : Int32) (o_t_states_1_cells : Nat → Int32) (o_t_states_2_size : Int32) (o_t_states_2_cells : Nat → Int32) (o_t_states_3_size : Int32) (o_t_states_3_cells : Nat → Int32) (h : f_X3_record t_oldest t_count t_states_0_size t_states_0_cells t_states_1_size t_states_1_cells t_states_2_size t_states_2_cells t_states_3_size t_states_3_cells a1_size a1_cells = some (o_t_oldest, o_t_count, o_t_states_0_size, o_t_states_0_cells, o_t_states_1_size, o_t_states_1_cells, o_t_states_2_size, o_t_states_2_cells, o_t_states_3_size, o_t_states_3_cells)) : Met l yX3_record wsX3_record ({ frames := 2, cells := 0, slots := 0, locals := 81 } : Room) (va_Pc [.ref q_t, .ref q_a1] (pcW G [(q_t, .inr (2, [.ref q_t_states, .int t_oldest, .int t_count])), (q_t_states, .inl (G.2 4, 4, .inr (.inr (.inr (.inr (st4 q_t_states_0 q_t_states_1 q_t_states_2 q_t_states_3)))))), (q_t_states_0, .inr (3, [.ref q_t_states_0_cells, .int t_states_0_size])), (q_t_states_0_cells, .inl (G.2 0, 49, .inl t_states_0_cells)), (q_t_states_1, .inr (3, [.ref q_t_states_1_cells, .int t_states_1_size])), (q_t_states_1_cells, .inl (G.2 0, 49, .inl t_states_1_cells)), (q_t_states_2, .inr (3, [.ref q_t_states_2_cells, .int t_states_2_size])), (q_t_states_2_cells, .inl (G.2 0, 49, .inl t_states_2_cells)), (q_t_states_3, .inr (3, [.ref q_t_states_3_cells, .int t_states_3_size])), (q_t_states_3_cells, .inl (G.2 0, 49, .inl t_states_3_cells)), (q_a1, .inr (3, [.ref q_a1_cells, .int a1_size])), (q_a1_cells, .inl (G.2 0, 49, .inl a1_cells))] sz)) (va_Qv (fun (_ : Unit) => True) (fun _ t => atW G (va_A [(q_t, .inr (2, [.ref q_t_states, .int t_oldest, .int t_count])), (q_t_states, .inl (G.2 4, 4, .inr (.inr (.inr (.inr (st4 q_t_states_0 q_t_states_1 q_t_states_2 q_t_states_3)))))), (q_t_states_0, .inr (3, [.ref q_t_states_0_cells, .int t_states_0_size])), (q_t_states_0_cells, .inl (G.2 0, 49, .inl t_states_0_cells)), (q_t_states_1, .inr (3, [.ref q_t_states_1_cells, .int t_states_1_size])), (q_t_states_1_cells, .inl (G.2 0, 49, .inl t_states_1_cells)), (q_t_states_2, .inr (3, [.ref q_t_states_2_cells, .int t_states_2_size])), (q_t_states_2_cells, .inl (G.2 0, 49, .inl t_states_2_cells)), (q_t_states_3, .inr (3, [.ref q_t_states_3_cells, .int t_states_3_size])), (q_t_states_3_cells, .inl (G.2 0, 49, .inl t_states_3_cells)), (q_a1, .inr (3, [.ref q_a1_cells, .int a1_size])), (q_a1_cells, .inl (G.2 0, 49, .inl a1_cells))] sz) [(q_t, .inr (2, [.ref q_t_states, .int o_t_oldest, .int o_t_count])), (q_t_states, .inl (G.2 4, 4, .inr (.inr (.inr (.inr (st4 q_t_states_0 q_t_states_1 q_t_states_2 q_t_states_3)))))), (q_t_states_0, .inr (3, [.ref q_t_states_0_cells, .int o_t_states_0_size])), (q_t_states_0_cells, .inl (G.2 0, 49, .inl o_t_states_0_cells)), (q_t_states_1, .inr (3, [.ref q_t_states_1_cells, .int o_t_states_1_size])), (q_t_states_1_cells, .inl (G.2 0, 49, .inl o_t_states_1_cells)), (q_t_states_2, .inr (3, [.ref q_t_states_2_cells, .int o_t_states_2_size])), (q_t_states_2_cells, .inl (G.2 0, 49, .inl o_t_states_2_cells)), (q_t_states_3, .inr (3, [.ref q_t_states_3_cells, .int o_t_states_3_size])), (q_t_states_3_cells, .inl (G.2 0, 49, .inl o_t_states_3_cells)), (q_a1, .inr (3, [.ref q_a1_cells, .int a1_size])), (q_a1_cells, .inl (G.2 0, 49, .inl a1_cells))] t) (va_A [(q_t, .inr (2, [.ref q_t_states, .int t_oldest, .int t_count])), (q_t_states, .inl (G.2 4, 4, .inr (.inr (.inr (.inr (st4 q_t_states_0 q_t_states_1 q_t_states_2 q_t_states_3)))))), (q_t_states_0, .inr (3, [.ref q_t_states_0_cells, .int t_states_0_size])), (q_t_states_0_cells, .inl (G.2 0, 49, .inl t_states_0_cells)), (q_t_states_1, .inr (3, [.ref q_t_states_1_cells, .int t_states_1_size])), (q_t_states_1_cells, .inl (G.2 0, 49, .inl t_states_1_cells)), (q_t_states_2, .inr (3, [.ref q_t_states_2_cells, .int t_states_2_size])), (q_t_states_2_cells, .inl (G.2 0, 49, .inl t_states_2_cells)), (q_t_states_3, .inr (3, [.ref q_t_states_3_cells, .int t_states_3_size])), (q_t_states_3_cells, .inl (G.2 0, 49, .inl t_states_3_cells)), (q_a1, .inr (3, [.ref q_a1_cells, .int a1_size])), (q_a1_cells, .inl (G.2 0, 49, .inl a1_cells))] sz)) 0 0 (va_A [(q_t, .inr (2, [.ref q_t_states, .int t_oldest, .int t_count])), (q_t_states, .inl (G.2 4, 4, .inr (.inr (.inr (.inr (st4 q_t_states_0 q_t_states_1 q_t_states_2 q_t_states_3)))))), (q_t_states_0, .inr (3, [.ref q_t_states_0_cells, .int t_states_0_size])), (q_t_states_0_cells, .inl (G.2 0, 49, .inl t_states_0_cells)), (q_t_states_1, .inr (3, [.ref q_t_states_1_cells, .int t_states_1_size])), (q_t_states_1_cells, .inl (G.2 0, 49, .inl t_states_1_cells)), (q_t_states_2, .inr (3, [.ref q_t_states_2_cells, .int t_states_2_size])), (q_t_states_2_cells, .inl (G.2 0, 49, .inl t_states_2_cells)), (q_t_states_3, .inr (3, [.ref q_t_states_3_cells, .int t_states_3_size])), (q_t_states_3_cells, .inl (G.2 0, 49, .inl t_states_3_cells)), (q_a1, .inr (3, [.ref q_a1_cells, .int a1_size])), (q_a1_cells, .inl (G.2 0, 49, .inl a1_cells))] sz) := by
  refine Met.ofW (cc := cX3_record) (maxL := 3) (ret := none) (by decide) rfl ?_
  intro p e s m args below meth c s₁ B hml hv
  obtain ⟨rfl, hsz, hP, hK, hD0⟩ := hv
  subst hsz
  have hD := hD0.self (sz := s.heap.size)
  generalize hAe : va_A [(q_t, .inr (2, [.ref q_t_states, .int t_oldest, .int t_count])), (q_t_states, .inl (G.2 4, 4, .inr (.inr (.inr (.inr (st4 q_t_states_0 q_t_states_1 q_t_states_2 q_t_states_3)))))), (q_t_states_0, .inr (3, [.ref q_t_states_0_cells, .int t_states_0_size])), (q_t_states_0_cells, .inl (G.2 0, 49, .inl t_states_0_cells)), (q_t_states_1, .inr (3, [.ref q_t_states_1_cells, .int t_states_1_size])), (q_t_states_1_cells, .inl (G.2 0, 49, .inl t_states_1_cells)), (q_t_states_2, .inr (3, [.ref q_t_states_2_cells, .int t_states_2_size])), (q_t_states_2_cells, .inl (G.2 0, 49, .inl t_states_2_cells)), (q_t_states_3, .inr (3, [.ref q_t_states_3_cells, .int t_states_3_size])), (q_t_states_3_cells, .inl (G.2 0, 49, .inl t_states_3_cells)), (q_a1, .inr (3, [.ref q_a1_cells, .int a1_size])), (q_a1_cells, .inl (G.2 0, 49, .inl a1_cells))] s.heap.size = A at hD ⊢
  have hA : ∀ q : Nat, s.heap.size ≤ q → A q := fun q h => by rw [← hAe]; exact Or.inr h
  have hl := lv_entry ([.ref q_t, .ref q_a1]) (n := 3) (Nat.le_of_ble_eq_true rfl)
  rw [lg_entry_eq]
  refine k_X3_record ⟨B.exec, B.bytes, hml, findClass_of_methodNamed B.named, atoms_spec (ws := wsX3_record) B.pre⟩ G hK hA q_t q_t_states q_t_states_0 q_t_states_1 q_t_states_2 q_t_states_3 q_t_states_0_cells q_t_states_1_cells q_t_states_2_cells q_t_states_3_cells q_a1 q_a1_cells _ _ _ _ _ _ _ _ _ _ _ _ _ _ _ _ _ _ _ _ _ _ h ?_ _ _ _ hP hD va_S.rf hl
  intro H locs ls pc hd hP hD hS
  exact W.vret B.exec B.bytes B.returns (fun t ht hW => ⟨⟨(), rfl, trivial, by rw [ht]; exact hP, hD⟩, hS.F ht⟩) hS.2.2 hd B.notSynchronized
set_option maxRecDepth 20000 in
theorem wd_X3_takeLatest_1 : Cond.fieldLink RX3 22 "PermanentDesk$History" "count" "I" ∈ wsX3_takeLatest := List.mem_of_getElem? (i := 1) (by decide +kernel)
set_option maxRecDepth 20000 in
theorem wi_X3_takeLatest_X3 : ∀ w ∈ u_ws RX3 TX3 3, w ∈ wsX3_takeLatest := by decide +kernel
def f_X3_takeLatest (t_oldest : Int32) (t_count : Int32) (t_states_0_size : Int32) (t_states_0_cells : Nat → Int32) (t_states_1_size : Int32) (t_states_1_cells : Nat → Int32) (t_states_2_size : Int32) (t_states_2_cells : Nat → Int32) (t_states_3_size : Int32) (t_states_3_cells : Nat → Int32) (a1_size : Int32) (a1_cells : Nat → Int32) : Option (Int32 × Int32 × (Nat → Int32)) :=
  if t_count ≤ 0 then
    some (t_count, a1_size, a1_cells)
  else
    pl ((t_count - (1 : Int32)) : Int32) (fun t_count_2 =>
    (f_X3_placeOf t_oldest t_count_2).bind (fun r_3 =>
    if r_3 = (0 : Int32) then
      (f_X4_copyFrom a1_size a1_cells t_states_0_size t_states_0_cells).bind (fun (a1_size_5, a1_cells_6) =>
      some (t_count_2, a1_size_5, a1_cells_6))
    else
    if r_3 = (1 : Int32) then
      (f_X4_copyFrom a1_size a1_cells t_states_1_size t_states_1_cells).bind (fun (a1_size_8, a1_cells_9) =>
      some (t_count_2, a1_size_8, a1_cells_9))
    else
    if r_3 = (2 : Int32) then
      (f_X4_copyFrom a1_size a1_cells t_states_2_size t_states_2_cells).bind (fun (a1_size_11, a1_cells_12) =>
      some (t_count_2, a1_size_11, a1_cells_12))
    else
    if r_3 = (3 : Int32) then
      (f_X4_copyFrom a1_size a1_cells t_states_3_size t_states_3_cells).bind (fun (a1_size_14, a1_cells_15) =>
      some (t_count_2, a1_size_14, a1_cells_15))
    else
    none))
set_option maxHeartbeats 4000000 in
set_option maxRecDepth 100000 in
theorem k_X3_takeLatest {p : Program} {l : Launch} {e : Env} {s : State} {m : MethodId} {args : Array Value} {below : List Frame} {meth : Method} {c : Code} {Q : State → Prop} {A0 : Nat → Prop} {H0 : Heap} (C : CallFix p m c cX3_takeLatest 2 s args wsX3_takeLatest RX3) (G : GT) (hK : gK G s) (hA : ∀ q : Nat, H0.size ≤ q → A0 q) (q_t q_t_states q_t_states_0 q_t_states_1 q_t_states_2 q_t_states_3 q_t_states_0_cells q_t_states_1_cells q_t_states_2_cells q_t_states_3_cells q_a1 q_a1_cells : Nat) (t_oldest : Int32) (t_count : Int32) (t_states_0_size : Int32) (t_states_0_cells : Nat → Int32) (t_states_1_size : Int32) (t_states_1_cells : Nat → Int32) (t_states_2_size : Int32) (t_states_2_cells : Nat → Int32) (t_states_3_size : Int32) (t_states_3_cells : Nat → Int32) (a1_size : Int32) (a1_cells : Nat → Int32) (o_t_count : Int32) (o_a1_size : Int32) (o_a1_cells : Nat → Int32) (h : f_X3_takeLatest t_oldest t_count t_states_0_size t_states_0_cells t_states_1_size t_states_1_cells t_states_2_size t_states_2_cells t_states_3_size t_states_3_cells a1_size a1_cells = some (o_t_count, o_a1_size, o_a1_cells)) (KR : ∀ (H : Heap) (locs : List Loc) (ls : Array Slot) (pc : Nat), decode cX3_takeLatest pc = .ok (.return_, 1) → va_P G.1 vwCl [(q_t, .inr (2, [.ref q_t_states, .int t_oldest, .int o_t_count])), (q_t_states, .inl (G.2 4, 4, .inr (.inr (.inr (.inr (st4 q_t_states_0 q_t_states_1 q_t_states_2 q_t_states_3)))))), (q_t_states_0, .inr (3, [.ref q_t_states_0_cells, .int t_states_0_size])), (q_t_states_0_cells, .inl (G.2 0, 49, .inl t_states_0_cells)), (q_t_states_1, .inr (3, [.ref q_t_states_1_cells, .int t_states_1_size])), (q_t_states_1_cells, .inl (G.2 0, 49, .inl t_states_1_cells)), (q_t_states_2, .inr (3, [.ref q_t_states_2_cells, .int t_states_2_size])), (q_t_states_2_cells, .inl (G.2 0, 49, .inl t_states_2_cells)), (q_t_states_3, .inr (3, [.ref q_t_states_3_cells, .int t_states_3_size])), (q_t_states_3_cells, .inl (G.2 0, 49, .inl t_states_3_cells)), (q_a1, .inr (3, [.ref q_a1_cells, .int o_a1_size])), (q_a1_cells, .inl (G.2 0, 49, .inl o_a1_cells))] H → va_D A0 [(q_t, .inr (2, [.ref q_t_states, .int t_oldest, .int o_t_count])), (q_t_states, .inl (G.2 4, 4, .inr (.inr (.inr (.inr (st4 q_t_states_0 q_t_states_1 q_t_states_2 q_t_states_3)))))), (q_t_states_0, .inr (3, [.ref q_t_states_0_cells, .int t_states_0_size])), (q_t_states_0_cells, .inl (G.2 0, 49, .inl t_states_0_cells)), (q_t_states_1, .inr (3, [.ref q_t_states_1_cells, .int t_states_1_size])), (q_t_states_1_cells, .inl (G.2 0, 49, .inl t_states_1_cells)), (q_t_states_2, .inr (3, [.ref q_t_states_2_cells, .int t_states_2_size])), (q_t_states_2_cells, .inl (G.2 0, 49, .inl t_states_2_cells)), (q_t_states_3, .inr (3, [.ref q_t_states_3_cells, .int t_states_3_size])), (q_t_states_3_cells, .inl (G.2 0, 49, .inl t_states_3_cells)), (q_a1, .inr (3, [.ref q_a1_cells, .int o_a1_size])), (q_a1_cells, .inl (G.2 0, 49, .inl o_a1_cells))] → va_S A0 H0 H locs → W p l e ({ frames := 2, cells := 0, slots := 0, locals := 81 } : Room) s m args below meth c H locs 0 0 Q (F0 m pc ls [])) : ∀ (H : Heap) (locs : List Loc) (ls : Array Slot), va_P G.1 vwCl [(q_t, .inr (2, [.ref q_t_states, .int t_oldest, .int t_count])), (q_t_states, .inl (G.2 4, 4, .inr (.inr (.inr (.inr (st4 q_t_states_0 q_t_states_1 q_t_states_2 q_t_states_3)))))), (q_t_states_0, .inr (3, [.ref q_t_states_0_cells, .int t_states_0_size])), (q_t_states_0_cells, .inl (G.2 0, 49, .inl t_states_0_cells)), (q_t_states_1, .inr (3, [.ref q_t_states_1_cells, .int t_states_1_size])), (q_t_states_1_cells, .inl (G.2 0, 49, .inl t_states_1_cells)), (q_t_states_2, .inr (3, [.ref q_t_states_2_cells, .int t_states_2_size])), (q_t_states_2_cells, .inl (G.2 0, 49, .inl t_states_2_cells)), (q_t_states_3, .inr (3, [.ref q_t_states_3_cells, .int t_states_3_size])), (q_t_states_3_cells, .inl (G.2 0, 49, .inl t_states_3_cells)), (q_a1, .inr (3, [.ref q_a1_cells, .int a1_size])), (q_a1_cells, .inl (G.2 0, 49, .inl a1_cells))] H → va_D A0 [(q_t, .inr (2, [.ref q_t_states, .int t_oldest, .int t_count])), (q_t_states, .inl (G.2 4, 4, .inr (.inr (.inr (.inr (st4 q_t_states_0 q_t_states_1 q_t_states_2 q_t_states_3)))))), (q_t_states_0, .inr (3, [.ref q_t_states_0_cells, .int t_states_0_size])), (q_t_states_0_cells, .inl (G.2 0, 49, .inl t_states_0_cells)), (q_t_states_1, .inr (3, [.ref q_t_states_1_cells, .int t_states_1_size])), (q_t_states_1_cells, .inl (G.2 0, 49, .inl t_states_1_cells)), (q_t_states_2, .inr (3, [.ref q_t_states_2_cells, .int t_states_2_size])), (q_t_states_2_cells, .inl (G.2 0, 49, .inl t_states_2_cells)), (q_t_states_3, .inr (3, [.ref q_t_states_3_cells, .int t_states_3_size])), (q_t_states_3_cells, .inl (G.2 0, 49, .inl t_states_3_cells)), (q_a1, .inr (3, [.ref q_a1_cells, .int a1_size])), (q_a1_cells, .inl (G.2 0, 49, .inl a1_cells))] → va_S A0 H0 H locs → lv_has ls 2 [(0, .ref q_t), (1, .ref q_a1)] → W p l e ({ frames := 2, cells := 0, slots := 0, locals := 81 } : Room) s m args below meth c H locs 0 0 Q (F0 m 0 ls []) := by
  obtain ⟨hx, hb, hml, hown, hts⟩ := C
  intro H locs ls hP hD hS hl
  rw [f_X3_takeLatest] at h
  refine lv_aload_n hx hb dX3_takeLatest_0 rfl (lv_at hl 0 rfl) ?_
  refine va_get (D := G.1) (ci := 2) (v := .int t_count) (C := RX3) (T := TX3) (N := 3) hx hb hts wi_X3_takeLatest_X3 hown hK hP 0 rfl rfl 2 (by decide) (hts _ wd_X3_takeLatest_1) (fun _ h9 => h9) rfl dX3_takeLatest_1 ?_
  refine lv_if_le (tgt := 29) hx hb dX3_takeLatest_4 (by decide) (fun c_1 => ?_) (fun c_1 => ?_)
  · replace h := it_t h c_1
    obtain ⟨rfl, rfl, rfl⟩ := sm3 h
    exact KR H locs ls 29 dX3_takeLatest_29 hP hD hS
  · replace h := it_f h c_1
    refine lv_aload_n hx hb dX3_takeLatest_7 rfl (lv_at hl 0 rfl) ?_
    refine lv_dup hx hb dX3_takeLatest_8 rfl ?_
    refine va_get (D := G.1) (ci := 2) (v := .int t_count) (C := RX3) (T := TX3) (N := 3) hx hb hts wi_X3_takeLatest_X3 hown hK hP 0 rfl rfl 2 (by decide) (hts _ wd_X3_takeLatest_1) (fun _ h9 => h9) rfl dX3_takeLatest_9 ?_
    refine lv_iconst (v := 1) hx hb dX3_takeLatest_12 (by decide) ?_
    refine lv_isub hx hb dX3_takeLatest_13 ?_
    refine lv_topi (fun t_count_2 et_count_2 => ?_)
    replace h := pl_v h et_count_2
    refine st_put (D := G.1) (ci := 2) (v := .int t_count_2) (ty := .int) (C := RX3) (T := TX3) (N := 3) (wn := [(q_t, .inr (2, [.ref q_t_states, .int t_oldest, .int t_count_2])), (q_t_states, .inl (G.2 4, 4, .inr (.inr (.inr (.inr (st4 q_t_states_0 q_t_states_1 q_t_states_2 q_t_states_3)))))), (q_t_states_0, .inr (3, [.ref q_t_states_0_cells, .int t_states_0_size])), (q_t_states_0_cells, .inl (G.2 0, 49, .inl t_states_0_cells)), (q_t_states_1, .inr (3, [.ref q_t_states_1_cells, .int t_states_1_size])), (q_t_states_1_cells, .inl (G.2 0, 49, .inl t_states_1_cells)), (q_t_states_2, .inr (3, [.ref q_t_states_2_cells, .int t_states_2_size])), (q_t_states_2_cells, .inl (G.2 0, 49, .inl t_states_2_cells)), (q_t_states_3, .inr (3, [.ref q_t_states_3_cells, .int t_states_3_size])), (q_t_states_3_cells, .inl (G.2 0, 49, .inl t_states_3_cells)), (q_a1, .inr (3, [.ref q_a1_cells, .int a1_size])), (q_a1_cells, .inl (G.2 0, 49, .inl a1_cells))]) hx hb hts wi_X3_takeLatest_X3 tyX3 tyX3_ok nmX3 hown hK hP hD hS 0 rfl rfl 2 (by decide) (hts _ wd_X3_takeLatest_1) (fun _ h9 => h9) rfl (by decide +kernel) rfl rfl (Nat.le_of_ble_eq_true rfl) dX3_takeLatest_14 rfl (fun H locs hP hD hS => ?_)
    refine lv_aload_n hx hb dX3_takeLatest_17 rfl (lv_at hl 1 rfl) ?_
    refine lv_aload_n hx hb dX3_takeLatest_18 rfl (lv_at hl 0 rfl) ?_
    refine lv_aload_n hx hb dX3_takeLatest_19 rfl (lv_at hl 0 rfl) ?_
    refine va_get (D := G.1) (ci := 2) (v := .int t_count_2) (C := RX3) (T := TX3) (N := 3) hx hb hts wi_X3_takeLatest_X3 hown hK hP 0 rfl rfl 2 (by decide) (hts _ wd_X3_takeLatest_1) (fun _ h9 => h9) rfl dX3_takeLatest_20 ?_
    obtain ⟨r_3, hf_4, h⟩ := bd_ok h
    refine ck_Vq (rest := [.ref q_a1]) (wn := [(q_t, .inr (2, [.ref q_t_states, .int t_oldest, .int t_count_2])), (q_t_states, .inl (G.2 4, 4, .inr (.inr (.inr (.inr (st4 q_t_states_0 q_t_states_1 q_t_states_2 q_t_states_3)))))), (q_t_states_0, .inr (3, [.ref q_t_states_0_cells, .int t_states_0_size])), (q_t_states_0_cells, .inl (G.2 0, 49, .inl t_states_0_cells)), (q_t_states_1, .inr (3, [.ref q_t_states_1_cells, .int t_states_1_size])), (q_t_states_1_cells, .inl (G.2 0, 49, .inl t_states_1_cells)), (q_t_states_2, .inr (3, [.ref q_t_states_2_cells, .int t_states_2_size])), (q_t_states_2_cells, .inl (G.2 0, 49, .inl t_states_2_cells)), (q_t_states_3, .inr (3, [.ref q_t_states_3_cells, .int t_states_3_size])), (q_t_states_3_cells, .inl (G.2 0, 49, .inl t_states_3_cells)), (q_a1, .inr (3, [.ref q_a1_cells, .int a1_size])), (q_a1_cells, .inl (G.2 0, 49, .inl a1_cells))]) ⟨hx, hb, hml, hown, hts⟩ hK hP hD hS hA [0, 1] [2, 3, 4, 5, 6, 7, 8, 9, 10, 11] [10, 11, 0, 1, 2, 3, 4, 5, 6, 7, 8, 9] (c_X3_placeOf l G q_t q_t_states q_t_states_0 q_t_states_1 q_t_states_2 q_t_states_3 _ t_oldest t_count_2 t_count_2 _ hf_4) (cwV 1 hts gX3_takeLatest_X3_placeOf rfl rfl rfl (by decide +kernel) ⟨Nat.le_of_ble_eq_true rfl, Nat.le_of_ble_eq_true rfl⟩) rfl rfl rfl rfl rfl rfl (by decide) rfl rfl rfl hl.1 rfl (Nat.le_of_ble_eq_true rfl) dX3_takeLatest_23 ⟨Nat.zero_le _, Nat.zero_le _⟩ (fun H locs hP hD hS => ?_)
    by_cases hc0 : r_3 = (0 : Int32)
    · replace h := it_t h hc0
      subst hc0
      rw [show va_rf (st4 q_t_states_0 q_t_states_1 q_t_states_2 q_t_states_3 ((0 : Int32)).toNatClampNeg) = Value.ref q_t_states_0 from rfl]
      obtain ⟨⟨a1_size_5, a1_cells_6⟩, hf_7, h⟩ := bd_ok h
      refine ck_Vv (rest := []) (wn := [(q_t, .inr (2, [.ref q_t_states, .int t_oldest, .int t_count_2])), (q_t_states, .inl (G.2 4, 4, .inr (.inr (.inr (.inr (st4 q_t_states_0 q_t_states_1 q_t_states_2 q_t_states_3)))))), (q_t_states_0, .inr (3, [.ref q_t_states_0_cells, .int t_states_0_size])), (q_t_states_0_cells, .inl (G.2 0, 49, .inl t_states_0_cells)), (q_t_states_1, .inr (3, [.ref q_t_states_1_cells, .int t_states_1_size])), (q_t_states_1_cells, .inl (G.2 0, 49, .inl t_states_1_cells)), (q_t_states_2, .inr (3, [.ref q_t_states_2_cells, .int t_states_2_size])), (q_t_states_2_cells, .inl (G.2 0, 49, .inl t_states_2_cells)), (q_t_states_3, .inr (3, [.ref q_t_states_3_cells, .int t_states_3_size])), (q_t_states_3_cells, .inl (G.2 0, 49, .inl t_states_3_cells)), (q_a1, .inr (3, [.ref q_a1_cells, .int a1_size_5])), (q_a1_cells, .inl (G.2 0, 49, .inl a1_cells_6))]) ⟨hx, hb, hml, hown, hts⟩ hK hP hD hS hA [10, 11, 2, 3] [0, 1, 4, 5, 6, 7, 8, 9] [0, 1, 10, 11, 2, 3, 4, 5, 6, 7, 8, 9] (c_X4_copyFrom l G q_a1 q_a1_cells q_t_states_0 q_t_states_0_cells _ a1_size a1_cells t_states_0_size t_states_0_cells _ _ hf_7) (cwV 1 hts gX3_takeLatest_X4_copyFrom rfl rfl rfl (by decide +kernel) ⟨Nat.le_of_ble_eq_true rfl, Nat.le_of_ble_eq_true rfl⟩) rfl rfl rfl rfl rfl rfl (by decide) rfl rfl rfl hl.1 rfl (Nat.le_of_ble_eq_true rfl) dX3_takeLatest_26 ⟨Nat.zero_le _, Nat.zero_le _⟩ (fun H locs hP hD hS => ?_)
      obtain ⟨rfl, rfl, rfl⟩ := sm3 h
      exact KR H locs ls 29 dX3_takeLatest_29 hP hD hS
    replace h := it_f h hc0
    by_cases hc1 : r_3 = (1 : Int32)
    · replace h := it_t h hc1
      subst hc1
      rw [show va_rf (st4 q_t_states_0 q_t_states_1 q_t_states_2 q_t_states_3 ((1 : Int32)).toNatClampNeg) = Value.ref q_t_states_1 from rfl]
      obtain ⟨⟨a1_size_8, a1_cells_9⟩, hf_10, h⟩ := bd_ok h
      refine ck_Vv (rest := []) (wn := [(q_t, .inr (2, [.ref q_t_states, .int t_oldest, .int t_count_2])), (q_t_states, .inl (G.2 4, 4, .inr (.inr (.inr (.inr (st4 q_t_states_0 q_t_states_1 q_t_states_2 q_t_states_3)))))), (q_t_states_0, .inr (3, [.ref q_t_states_0_cells, .int t_states_0_size])), (q_t_states_0_cells, .inl (G.2 0, 49, .inl t_states_0_cells)), (q_t_states_1, .inr (3, [.ref q_t_states_1_cells, .int t_states_1_size])), (q_t_states_1_cells, .inl (G.2 0, 49, .inl t_states_1_cells)), (q_t_states_2, .inr (3, [.ref q_t_states_2_cells, .int t_states_2_size])), (q_t_states_2_cells, .inl (G.2 0, 49, .inl t_states_2_cells)), (q_t_states_3, .inr (3, [.ref q_t_states_3_cells, .int t_states_3_size])), (q_t_states_3_cells, .inl (G.2 0, 49, .inl t_states_3_cells)), (q_a1, .inr (3, [.ref q_a1_cells, .int a1_size_8])), (q_a1_cells, .inl (G.2 0, 49, .inl a1_cells_9))]) ⟨hx, hb, hml, hown, hts⟩ hK hP hD hS hA [10, 11, 4, 5] [0, 1, 2, 3, 6, 7, 8, 9] [0, 1, 2, 3, 10, 11, 4, 5, 6, 7, 8, 9] (c_X4_copyFrom l G q_a1 q_a1_cells q_t_states_1 q_t_states_1_cells _ a1_size a1_cells t_states_1_size t_states_1_cells _ _ hf_10) (cwV 1 hts gX3_takeLatest_X4_copyFrom rfl rfl rfl (by decide +kernel) ⟨Nat.le_of_ble_eq_true rfl, Nat.le_of_ble_eq_true rfl⟩) rfl rfl rfl rfl rfl rfl (by decide) rfl rfl rfl hl.1 rfl (Nat.le_of_ble_eq_true rfl) dX3_takeLatest_26 ⟨Nat.zero_le _, Nat.zero_le _⟩ (fun H locs hP hD hS => ?_)
      obtain ⟨rfl, rfl, rfl⟩ := sm3 h
      exact KR H locs ls 29 dX3_takeLatest_29 hP hD hS
    replace h := it_f h hc1
    by_cases hc2 : r_3 = (2 : Int32)
    · replace h := it_t h hc2
      subst hc2
      rw [show va_rf (st4 q_t_states_0 q_t_states_1 q_t_states_2 q_t_states_3 ((2 : Int32)).toNatClampNeg) = Value.ref q_t_states_2 from rfl]
      obtain ⟨⟨a1_size_11, a1_cells_12⟩, hf_13, h⟩ := bd_ok h
      refine ck_Vv (rest := []) (wn := [(q_t, .inr (2, [.ref q_t_states, .int t_oldest, .int t_count_2])), (q_t_states, .inl (G.2 4, 4, .inr (.inr (.inr (.inr (st4 q_t_states_0 q_t_states_1 q_t_states_2 q_t_states_3)))))), (q_t_states_0, .inr (3, [.ref q_t_states_0_cells, .int t_states_0_size])), (q_t_states_0_cells, .inl (G.2 0, 49, .inl t_states_0_cells)), (q_t_states_1, .inr (3, [.ref q_t_states_1_cells, .int t_states_1_size])), (q_t_states_1_cells, .inl (G.2 0, 49, .inl t_states_1_cells)), (q_t_states_2, .inr (3, [.ref q_t_states_2_cells, .int t_states_2_size])), (q_t_states_2_cells, .inl (G.2 0, 49, .inl t_states_2_cells)), (q_t_states_3, .inr (3, [.ref q_t_states_3_cells, .int t_states_3_size])), (q_t_states_3_cells, .inl (G.2 0, 49, .inl t_states_3_cells)), (q_a1, .inr (3, [.ref q_a1_cells, .int a1_size_11])), (q_a1_cells, .inl (G.2 0, 49, .inl a1_cells_12))]) ⟨hx, hb, hml, hown, hts⟩ hK hP hD hS hA [10, 11, 6, 7] [0, 1, 2, 3, 4, 5, 8, 9] [0, 1, 2, 3, 4, 5, 10, 11, 6, 7, 8, 9] (c_X4_copyFrom l G q_a1 q_a1_cells q_t_states_2 q_t_states_2_cells _ a1_size a1_cells t_states_2_size t_states_2_cells _ _ hf_13) (cwV 1 hts gX3_takeLatest_X4_copyFrom rfl rfl rfl (by decide +kernel) ⟨Nat.le_of_ble_eq_true rfl, Nat.le_of_ble_eq_true rfl⟩) rfl rfl rfl rfl rfl rfl (by decide) rfl rfl rfl hl.1 rfl (Nat.le_of_ble_eq_true rfl) dX3_takeLatest_26 ⟨Nat.zero_le _, Nat.zero_le _⟩ (fun H locs hP hD hS => ?_)
      obtain ⟨rfl, rfl, rfl⟩ := sm3 h
      exact KR H locs ls 29 dX3_takeLatest_29 hP hD hS
    replace h := it_f h hc2
    by_cases hc3 : r_3 = (3 : Int32)
    · replace h := it_t h hc3
      subst hc3
      rw [show va_rf (st4 q_t_states_0 q_t_states_1 q_t_states_2 q_t_states_3 ((3 : Int32)).toNatClampNeg) = Value.ref q_t_states_3 from rfl]
      obtain ⟨⟨a1_size_14, a1_cells_15⟩, hf_16, h⟩ := bd_ok h
      refine ck_Vv (rest := []) (wn := [(q_t, .inr (2, [.ref q_t_states, .int t_oldest, .int t_count_2])), (q_t_states, .inl (G.2 4, 4, .inr (.inr (.inr (.inr (st4 q_t_states_0 q_t_states_1 q_t_states_2 q_t_states_3)))))), (q_t_states_0, .inr (3, [.ref q_t_states_0_cells, .int t_states_0_size])), (q_t_states_0_cells, .inl (G.2 0, 49, .inl t_states_0_cells)), (q_t_states_1, .inr (3, [.ref q_t_states_1_cells, .int t_states_1_size])), (q_t_states_1_cells, .inl (G.2 0, 49, .inl t_states_1_cells)), (q_t_states_2, .inr (3, [.ref q_t_states_2_cells, .int t_states_2_size])), (q_t_states_2_cells, .inl (G.2 0, 49, .inl t_states_2_cells)), (q_t_states_3, .inr (3, [.ref q_t_states_3_cells, .int t_states_3_size])), (q_t_states_3_cells, .inl (G.2 0, 49, .inl t_states_3_cells)), (q_a1, .inr (3, [.ref q_a1_cells, .int a1_size_14])), (q_a1_cells, .inl (G.2 0, 49, .inl a1_cells_15))]) ⟨hx, hb, hml, hown, hts⟩ hK hP hD hS hA [10, 11, 8, 9] [0, 1, 2, 3, 4, 5, 6, 7] [0, 1, 2, 3, 4, 5, 6, 7, 10, 11, 8, 9] (c_X4_copyFrom l G q_a1 q_a1_cells q_t_states_3 q_t_states_3_cells _ a1_size a1_cells t_states_3_size t_states_3_cells _ _ hf_16) (cwV 1 hts gX3_takeLatest_X4_copyFrom rfl rfl rfl (by decide +kernel) ⟨Nat.le_of_ble_eq_true rfl, Nat.le_of_ble_eq_true rfl⟩) rfl rfl rfl rfl rfl rfl (by decide) rfl rfl rfl hl.1 rfl (Nat.le_of_ble_eq_true rfl) dX3_takeLatest_26 ⟨Nat.zero_le _, Nat.zero_le _⟩ (fun H locs hP hD hS => ?_)
      obtain ⟨rfl, rfl, rfl⟩ := sm3 h
      exact KR H locs ls 29 dX3_takeLatest_29 hP hD hS
    replace h := it_f h hc3
    cases h
set_option maxHeartbeats 4000000 in
set_option maxRecDepth 100000 in
theorem c_X3_takeLatest (l : Launch) (G : GT) (q_t q_t_states q_t_states_0 q_t_states_1 q_t_states_2 q_t_states_3 q_t_states_0_cells q_t_states_1_cells q_t_states_2_cells q_t_states_3_cells q_a1 q_a1_cells : Nat) (sz : Nat) (t_oldest : Int32) (t_count : Int32) (t_states_0_size : Int32) (t_states_0_cells : Nat → Int32) (t_states_1_size : Int32) (t_states_1_cells : Nat → Int32) (t_states_2_size : Int32) (t_states_2_cells : Nat → Int32) (t_states_3_size : Int32) (t_states_3_cells : Nat → Int32) (a1_size : Int32) (a1_cells : Nat → Int32) (o_t_count : Int32) (o_a1_size : Int32) (o_a1_cells : Nat → Int32) (h : f_X3_takeLatest t_oldest t_count t_states_0_size t_states_0_cells t_states_1_size t_states_1_cells t_states_2_size t_states_2_cells t_states_3_size t_states_3_cells a1_size a1_cells = some (o_t_count, o_a1_size, o_a1_cells)) : Met l yX3_takeLatest wsX3_takeLatest ({ frames := 2, cells := 0, slots := 0, locals := 81 } : Room) (va_Pc [.ref q_t, .ref q_a1] (pcW G [(q_t, .inr (2, [.ref q_t_states, .int t_oldest, .int t_count])), (q_t_states, .inl (G.2 4, 4, .inr (.inr (.inr (.inr (st4 q_t_states_0 q_t_states_1 q_t_states_2 q_t_states_3)))))), (q_t_states_0, .inr (3, [.ref q_t_states_0_cells, .int t_states_0_size])), (q_t_states_0_cells, .inl (G.2 0, 49, .inl t_states_0_cells)), (q_t_states_1, .inr (3, [.ref q_t_states_1_cells, .int t_states_1_size])), (q_t_states_1_cells, .inl (G.2 0, 49, .inl t_states_1_cells)), (q_t_states_2, .inr (3, [.ref q_t_states_2_cells, .int t_states_2_size])), (q_t_states_2_cells, .inl (G.2 0, 49, .inl t_states_2_cells)), (q_t_states_3, .inr (3, [.ref q_t_states_3_cells, .int t_states_3_size])), (q_t_states_3_cells, .inl (G.2 0, 49, .inl t_states_3_cells)), (q_a1, .inr (3, [.ref q_a1_cells, .int a1_size])), (q_a1_cells, .inl (G.2 0, 49, .inl a1_cells))] sz)) (va_Qv (fun (_ : Unit) => True) (fun _ t => atW G (va_A [(q_t, .inr (2, [.ref q_t_states, .int t_oldest, .int t_count])), (q_t_states, .inl (G.2 4, 4, .inr (.inr (.inr (.inr (st4 q_t_states_0 q_t_states_1 q_t_states_2 q_t_states_3)))))), (q_t_states_0, .inr (3, [.ref q_t_states_0_cells, .int t_states_0_size])), (q_t_states_0_cells, .inl (G.2 0, 49, .inl t_states_0_cells)), (q_t_states_1, .inr (3, [.ref q_t_states_1_cells, .int t_states_1_size])), (q_t_states_1_cells, .inl (G.2 0, 49, .inl t_states_1_cells)), (q_t_states_2, .inr (3, [.ref q_t_states_2_cells, .int t_states_2_size])), (q_t_states_2_cells, .inl (G.2 0, 49, .inl t_states_2_cells)), (q_t_states_3, .inr (3, [.ref q_t_states_3_cells, .int t_states_3_size])), (q_t_states_3_cells, .inl (G.2 0, 49, .inl t_states_3_cells)), (q_a1, .inr (3, [.ref q_a1_cells, .int a1_size])), (q_a1_cells, .inl (G.2 0, 49, .inl a1_cells))] sz) [(q_t, .inr (2, [.ref q_t_states, .int t_oldest, .int o_t_count])), (q_t_states, .inl (G.2 4, 4, .inr (.inr (.inr (.inr (st4 q_t_states_0 q_t_states_1 q_t_states_2 q_t_states_3)))))), (q_t_states_0, .inr (3, [.ref q_t_states_0_cells, .int t_states_0_size])), (q_t_states_0_cells, .inl (G.2 0, 49, .inl t_states_0_cells)), (q_t_states_1, .inr (3, [.ref q_t_states_1_cells, .int t_states_1_size])), (q_t_states_1_cells, .inl (G.2 0, 49, .inl t_states_1_cells)), (q_t_states_2, .inr (3, [.ref q_t_states_2_cells, .int t_states_2_size])), (q_t_states_2_cells, .inl (G.2 0, 49, .inl t_states_2_cells)), (q_t_states_3, .inr (3, [.ref q_t_states_3_cells, .int t_states_3_size])), (q_t_states_3_cells, .inl (G.2 0, 49, .inl t_states_3_cells)), (q_a1, .inr (3, [.ref q_a1_cells, .int o_a1_size])), (q_a1_cells, .inl (G.2 0, 49, .inl o_a1_cells))] t) (va_A [(q_t, .inr (2, [.ref q_t_states, .int t_oldest, .int t_count])), (q_t_states, .inl (G.2 4, 4, .inr (.inr (.inr (.inr (st4 q_t_states_0 q_t_states_1 q_t_states_2 q_t_states_3)))))), (q_t_states_0, .inr (3, [.ref q_t_states_0_cells, .int t_states_0_size])), (q_t_states_0_cells, .inl (G.2 0, 49, .inl t_states_0_cells)), (q_t_states_1, .inr (3, [.ref q_t_states_1_cells, .int t_states_1_size])), (q_t_states_1_cells, .inl (G.2 0, 49, .inl t_states_1_cells)), (q_t_states_2, .inr (3, [.ref q_t_states_2_cells, .int t_states_2_size])), (q_t_states_2_cells, .inl (G.2 0, 49, .inl t_states_2_cells)), (q_t_states_3, .inr (3, [.ref q_t_states_3_cells, .int t_states_3_size])), (q_t_states_3_cells, .inl (G.2 0, 49, .inl t_states_3_cells)), (q_a1, .inr (3, [.ref q_a1_cells, .int a1_size])), (q_a1_cells, .inl (G.2 0, 49, .inl a1_cells))] sz)) 0 0 (va_A [(q_t, .inr (2, [.ref q_t_states, .int t_oldest, .int t_count])), (q_t_states, .inl (G.2 4, 4, .inr (.inr (.inr (.inr (st4 q_t_states_0 q_t_states_1 q_t_states_2 q_t_states_3)))))), (q_t_states_0, .inr (3, [.ref q_t_states_0_cells, .int t_states_0_size])), (q_t_states_0_cells, .inl (G.2 0, 49, .inl t_states_0_cells)), (q_t_states_1, .inr (3, [.ref q_t_states_1_cells, .int t_states_1_size])), (q_t_states_1_cells, .inl (G.2 0, 49, .inl t_states_1_cells)), (q_t_states_2, .inr (3, [.ref q_t_states_2_cells, .int t_states_2_size])), (q_t_states_2_cells, .inl (G.2 0, 49, .inl t_states_2_cells)), (q_t_states_3, .inr (3, [.ref q_t_states_3_cells, .int t_states_3_size])), (q_t_states_3_cells, .inl (G.2 0, 49, .inl t_states_3_cells)), (q_a1, .inr (3, [.ref q_a1_cells, .int a1_size])), (q_a1_cells, .inl (G.2 0, 49, .inl a1_cells))] sz) := by
  refine Met.ofW (cc := cX3_takeLatest) (maxL := 2) (ret := none) (by decide) rfl ?_
  intro p e s m args below meth c s₁ B hml hv
  obtain ⟨rfl, hsz, hP, hK, hD0⟩ := hv
  subst hsz
  have hD := hD0.self (sz := s.heap.size)
  generalize hAe : va_A [(q_t, .inr (2, [.ref q_t_states, .int t_oldest, .int t_count])), (q_t_states, .inl (G.2 4, 4, .inr (.inr (.inr (.inr (st4 q_t_states_0 q_t_states_1 q_t_states_2 q_t_states_3)))))), (q_t_states_0, .inr (3, [.ref q_t_states_0_cells, .int t_states_0_size])), (q_t_states_0_cells, .inl (G.2 0, 49, .inl t_states_0_cells)), (q_t_states_1, .inr (3, [.ref q_t_states_1_cells, .int t_states_1_size])), (q_t_states_1_cells, .inl (G.2 0, 49, .inl t_states_1_cells)), (q_t_states_2, .inr (3, [.ref q_t_states_2_cells, .int t_states_2_size])), (q_t_states_2_cells, .inl (G.2 0, 49, .inl t_states_2_cells)), (q_t_states_3, .inr (3, [.ref q_t_states_3_cells, .int t_states_3_size])), (q_t_states_3_cells, .inl (G.2 0, 49, .inl t_states_3_cells)), (q_a1, .inr (3, [.ref q_a1_cells, .int a1_size])), (q_a1_cells, .inl (G.2 0, 49, .inl a1_cells))] s.heap.size = A at hD ⊢
  have hA : ∀ q : Nat, s.heap.size ≤ q → A q := fun q h => by rw [← hAe]; exact Or.inr h
  have hl := lv_entry ([.ref q_t, .ref q_a1]) (n := 2) (Nat.le_of_ble_eq_true rfl)
  rw [lg_entry_eq]
  refine k_X3_takeLatest ⟨B.exec, B.bytes, hml, findClass_of_methodNamed B.named, atoms_spec (ws := wsX3_takeLatest) B.pre⟩ G hK hA q_t q_t_states q_t_states_0 q_t_states_1 q_t_states_2 q_t_states_3 q_t_states_0_cells q_t_states_1_cells q_t_states_2_cells q_t_states_3_cells q_a1 q_a1_cells _ _ _ _ _ _ _ _ _ _ _ _ _ _ _ h ?_ _ _ _ hP hD va_S.rf hl
  intro H locs ls pc hd hP hD hS
  exact W.vret B.exec B.bytes B.returns (fun t ht hW => ⟨⟨(), rfl, trivial, by rw [ht]; exact hP, hD⟩, hS.F ht⟩) hS.2.2 hd B.notSynchronized
