set_option maxRecDepth 20000 in
theorem wd_X4_allLines_1 : Cond.fieldLink RX4 15 "PermanentDesk$Matrix" "size" "I" ∈ wsX4_allLines := List.mem_of_getElem? (i := 1) (by decide +kernel)
set_option maxRecDepth 20000 in
theorem wi_X4_allLines_X4 : ∀ w ∈ u_ws RX4 TX4 2, w ∈ wsX4_allLines := by decide +kernel
def f_X4_allLines (t_size : Int32) : Option Int32 :=
  some (((1 : Int32) <<< (t_size &&& 31)) - (1 : Int32))
set_option maxHeartbeats 4000000 in
set_option maxRecDepth 100000 in
theorem k_X4_allLines {p : Program} {l : Launch} {e : Env} {s : State} {m : MethodId} {args : Array Value} {below : List Frame} {meth : Method} {c : Code} {Q : State → Prop} {A0 : Nat → Prop} {H0 : Heap} (C : CallFix p m c cX4_allLines 1 s args wsX4_allLines RX4) (G : GT) (hK : gK G s) (hA : ∀ q : Nat, H0.size ≤ q → A0 q) (q_t q_t_cells : Nat) (t_size : Int32) (r : Int32) (h : f_X4_allLines t_size = some r) (KR : ∀ (H : Heap) (locs : List Loc) (ls : Array Slot) (pc : Nat), decode cX4_allLines pc = .ok (.ireturn, 1) → va_P G.1 vwCl [(q_t, .inr (3, [.ref q_t_cells, .int t_size]))] H → va_D A0 [(q_t, .inr (3, [.ref q_t_cells, .int t_size]))] → va_S A0 H0 H locs → W p l e ({ frames := 0, cells := 0, slots := 0, locals := 0 } : Room) s m args below meth c H locs 0 0 Q (F0 m pc ls [.int r])) : ∀ (H : Heap) (locs : List Loc) (ls : Array Slot), va_P G.1 vwCl [(q_t, .inr (3, [.ref q_t_cells, .int t_size]))] H → va_D A0 [(q_t, .inr (3, [.ref q_t_cells, .int t_size]))] → va_S A0 H0 H locs → lv_has ls 1 [(0, .ref q_t)] → W p l e ({ frames := 0, cells := 0, slots := 0, locals := 0 } : Room) s m args below meth c H locs 0 0 Q (F0 m 0 ls []) := by
  obtain ⟨hx, hb, hml, hown, hts⟩ := C
  intro H locs ls hP hD hS hl
  rw [f_X4_allLines] at h
  refine lv_iconst (v := 1) hx hb dX4_allLines_0 (by decide) ?_
  refine lv_aload_n hx hb dX4_allLines_1 rfl (lv_at hl 0 rfl) ?_
  refine va_get (D := G.1) (ci := 3) (v := .int t_size) (C := RX4) (T := TX4) (N := 2) hx hb hts wi_X4_allLines_X4 hown hK hP 0 rfl rfl 1 (by decide) (hts _ wd_X4_allLines_1) (fun _ h9 => h9) rfl dX4_allLines_2 ?_
  refine lv_ishl hx hb dX4_allLines_5 ?_
  refine lv_iconst (v := 1) hx hb dX4_allLines_6 (by decide) ?_
  refine lv_isub hx hb dX4_allLines_7 ?_
  obtain rfl := sm1 h
  exact KR H locs ls 8 dX4_allLines_8 hP hD hS
set_option maxHeartbeats 4000000 in
set_option maxRecDepth 100000 in
theorem c_X4_allLines (l : Launch) (G : GT) (q_t q_t_cells : Nat) (sz : Nat) (t_size : Int32) (r : Int32) (h : f_X4_allLines t_size = some r) : Met l yX4_allLines wsX4_allLines ({ frames := 0, cells := 0, slots := 0, locals := 0 } : Room) (va_Pc [.ref q_t] (pcW G [(q_t, .inr (3, [.ref q_t_cells, .int t_size]))] sz)) (va_Qi (fun r9 (_ : Unit) => r9 = r) (fun _ t => atW G (va_A [(q_t, .inr (3, [.ref q_t_cells, .int t_size]))] sz) [(q_t, .inr (3, [.ref q_t_cells, .int t_size]))] t) (va_A [(q_t, .inr (3, [.ref q_t_cells, .int t_size]))] sz)) 0 0 (va_A [(q_t, .inr (3, [.ref q_t_cells, .int t_size]))] sz) := by
  refine Met.ofW (cc := cX4_allLines) (maxL := 1) (ret := (some .int)) (by decide) rfl ?_
  intro p e s m args below meth c s₁ B hml hv
  obtain ⟨rfl, hsz, hP, hK, hD0⟩ := hv
  subst hsz
  have hD := hD0.self (sz := s.heap.size)
  generalize hAe : va_A [(q_t, .inr (3, [.ref q_t_cells, .int t_size]))] s.heap.size = A at hD ⊢
  have hA : ∀ q : Nat, s.heap.size ≤ q → A q := fun q h => by rw [← hAe]; exact Or.inr h
  have hl := lv_entry ([.ref q_t]) (n := 1) (Nat.le_of_ble_eq_true rfl)
  rw [lg_entry_eq]
  refine k_X4_allLines ⟨B.exec, B.bytes, hml, findClass_of_methodNamed B.named, atoms_spec (ws := wsX4_allLines) B.pre⟩ G hK hA q_t q_t_cells _ _ h ?_ _ _ _ hP hD va_S.rf hl
  intro H locs ls pc hd hP hD hS
  exact W.iret B.exec B.bytes B.returns (fun t ht hW => ⟨⟨r, (), rfl, rfl, by rw [ht]; exact hP, hD⟩, hS.F ht⟩) hS.2.2 hd B.notSynchronized
set_option maxRecDepth 20000 in
theorem wd_X4_size_1 : Cond.fieldLink RX4 15 "PermanentDesk$Matrix" "size" "I" ∈ wsX4_size := List.mem_of_getElem? (i := 1) (by decide +kernel)
set_option maxRecDepth 20000 in
theorem wi_X4_size_X4 : ∀ w ∈ u_ws RX4 TX4 2, w ∈ wsX4_size := by decide +kernel
def f_X4_size (t_size : Int32) : Option Int32 :=
  some t_size
set_option maxHeartbeats 4000000 in
set_option maxRecDepth 100000 in
theorem k_X4_size {p : Program} {l : Launch} {e : Env} {s : State} {m : MethodId} {args : Array Value} {below : List Frame} {meth : Method} {c : Code} {Q : State → Prop} {A0 : Nat → Prop} {H0 : Heap} (C : CallFix p m c cX4_size 1 s args wsX4_size RX4) (G : GT) (hK : gK G s) (hA : ∀ q : Nat, H0.size ≤ q → A0 q) (q_t q_t_cells : Nat) (t_size : Int32) (r : Int32) (h : f_X4_size t_size = some r) (KR : ∀ (H : Heap) (locs : List Loc) (ls : Array Slot) (pc : Nat), decode cX4_size pc = .ok (.ireturn, 1) → va_P G.1 vwCl [(q_t, .inr (3, [.ref q_t_cells, .int t_size]))] H → va_D A0 [(q_t, .inr (3, [.ref q_t_cells, .int t_size]))] → va_S A0 H0 H locs → W p l e ({ frames := 0, cells := 0, slots := 0, locals := 0 } : Room) s m args below meth c H locs 0 0 Q (F0 m pc ls [.int r])) : ∀ (H : Heap) (locs : List Loc) (ls : Array Slot), va_P G.1 vwCl [(q_t, .inr (3, [.ref q_t_cells, .int t_size]))] H → va_D A0 [(q_t, .inr (3, [.ref q_t_cells, .int t_size]))] → va_S A0 H0 H locs → lv_has ls 1 [(0, .ref q_t)] → W p l e ({ frames := 0, cells := 0, slots := 0, locals := 0 } : Room) s m args below meth c H locs 0 0 Q (F0 m 0 ls []) := by
  obtain ⟨hx, hb, hml, hown, hts⟩ := C
  intro H locs ls hP hD hS hl
  rw [f_X4_size] at h
  refine lv_aload_n hx hb dX4_size_0 rfl (lv_at hl 0 rfl) ?_
  refine va_get (D := G.1) (ci := 3) (v := .int t_size) (C := RX4) (T := TX4) (N := 2) hx hb hts wi_X4_size_X4 hown hK hP 0 rfl rfl 1 (by decide) (hts _ wd_X4_size_1) (fun _ h9 => h9) rfl dX4_size_1 ?_
  obtain rfl := sm1 h
  exact KR H locs ls 4 dX4_size_4 hP hD hS
set_option maxHeartbeats 4000000 in
set_option maxRecDepth 100000 in
theorem c_X4_size (l : Launch) (G : GT) (q_t q_t_cells : Nat) (sz : Nat) (t_size : Int32) (r : Int32) (h : f_X4_size t_size = some r) : Met l yX4_size wsX4_size ({ frames := 0, cells := 0, slots := 0, locals := 0 } : Room) (va_Pc [.ref q_t] (pcW G [(q_t, .inr (3, [.ref q_t_cells, .int t_size]))] sz)) (va_Qi (fun r9 (_ : Unit) => r9 = r) (fun _ t => atW G (va_A [(q_t, .inr (3, [.ref q_t_cells, .int t_size]))] sz) [(q_t, .inr (3, [.ref q_t_cells, .int t_size]))] t) (va_A [(q_t, .inr (3, [.ref q_t_cells, .int t_size]))] sz)) 0 0 (va_A [(q_t, .inr (3, [.ref q_t_cells, .int t_size]))] sz) := by
  refine Met.ofW (cc := cX4_size) (maxL := 1) (ret := (some .int)) (by decide) rfl ?_
  intro p e s m args below meth c s₁ B hml hv
  obtain ⟨rfl, hsz, hP, hK, hD0⟩ := hv
  subst hsz
  have hD := hD0.self (sz := s.heap.size)
  generalize hAe : va_A [(q_t, .inr (3, [.ref q_t_cells, .int t_size]))] s.heap.size = A at hD ⊢
  have hA : ∀ q : Nat, s.heap.size ≤ q → A q := fun q h => by rw [← hAe]; exact Or.inr h
  have hl := lv_entry ([.ref q_t]) (n := 1) (Nat.le_of_ble_eq_true rfl)
  rw [lg_entry_eq]
  refine k_X4_size ⟨B.exec, B.bytes, hml, findClass_of_methodNamed B.named, atoms_spec (ws := wsX4_size) B.pre⟩ G hK hA q_t q_t_cells _ _ h ?_ _ _ _ hP hD va_S.rf hl
  intro H locs ls pc hd hP hD hS
  exact W.iret B.exec B.bytes B.returns (fun t ht hW => ⟨⟨r, (), rfl, rfl, by rw [ht]; exact hP, hD⟩, hS.F ht⟩) hS.2.2 hd B.notSynchronized
set_option maxRecDepth 20000 in
theorem wd_X4_has_1 : Cond.fieldLink RX4 15 "PermanentDesk$Matrix" "size" "I" ∈ wsX4_has := List.mem_of_getElem? (i := 1) (by decide +kernel)
set_option maxRecDepth 20000 in
theorem wi_X4_has_X4 : ∀ w ∈ u_ws RX4 TX4 2, w ∈ wsX4_has := by decide +kernel
def f_X4_has (t_size : Int32) (a1 : Int32) : Option Int32 :=
  if a1 < 0 then
    some (0 : Int32)
  else
    if t_size ≤ a1 then
      some (0 : Int32)
    else
      some (1 : Int32)
set_option maxHeartbeats 4000000 in
set_option maxRecDepth 100000 in
theorem k_X4_has {p : Program} {l : Launch} {e : Env} {s : State} {m : MethodId} {args : Array Value} {below : List Frame} {meth : Method} {c : Code} {Q : State → Prop} {A0 : Nat → Prop} {H0 : Heap} (C : CallFix p m c cX4_has 2 s args wsX4_has RX4) (G : GT) (hK : gK G s) (hA : ∀ q : Nat, H0.size ≤ q → A0 q) (q_t q_t_cells : Nat) (t_size : Int32) (a1 : Int32) (r : Int32) (h : f_X4_has t_size a1 = some r) (KR : ∀ (H : Heap) (locs : List Loc) (ls : Array Slot) (pc : Nat), decode cX4_has pc = .ok (.ireturn, 1) → (r = 0 ∨ r = 1) → va_P G.1 vwCl [(q_t, .inr (3, [.ref q_t_cells, .int t_size]))] H → va_D A0 [(q_t, .inr (3, [.ref q_t_cells, .int t_size]))] → va_S A0 H0 H locs → W p l e ({ frames := 0, cells := 0, slots := 0, locals := 0 } : Room) s m args below meth c H locs 0 0 Q (F0 m pc ls [.int r])) : ∀ (H : Heap) (locs : List Loc) (ls : Array Slot), va_P G.1 vwCl [(q_t, .inr (3, [.ref q_t_cells, .int t_size]))] H → va_D A0 [(q_t, .inr (3, [.ref q_t_cells, .int t_size]))] → va_S A0 H0 H locs → lv_has ls 2 [(0, .ref q_t), (1, .int a1)] → W p l e ({ frames := 0, cells := 0, slots := 0, locals := 0 } : Room) s m args below meth c H locs 0 0 Q (F0 m 0 ls []) := by
  obtain ⟨hx, hb, hml, hown, hts⟩ := C
  intro H locs ls hP hD hS hl
  rw [f_X4_has] at h
  refine lv_iload_n hx hb dX4_has_0 rfl (lv_at hl 1 rfl) ?_
  refine lv_if_lt (tgt := 16) hx hb dX4_has_1 (by decide) (fun c_1 => ?_) (fun c_1 => ?_)
  · replace h := it_t h c_1
    refine lv_iconst (v := 0) hx hb dX4_has_16 (by decide) ?_
    obtain rfl := sm1 h
    exact KR H locs ls 17 dX4_has_17 (Or.inl rfl) hP hD hS
  · replace h := it_f h c_1
    refine lv_iload_n hx hb dX4_has_4 rfl (lv_at hl 1 rfl) ?_
    refine lv_aload_n hx hb dX4_has_5 rfl (lv_at hl 0 rfl) ?_
    refine va_get (D := G.1) (ci := 3) (v := .int t_size) (C := RX4) (T := TX4) (N := 2) hx hb hts wi_X4_has_X4 hown hK hP 0 rfl rfl 1 (by decide) (hts _ wd_X4_has_1) (fun _ h9 => h9) rfl dX4_has_6 ?_
    refine lv_icmp_ge (tgt := 16) hx hb dX4_has_9 (by decide) (fun c_2 => ?_) (fun c_2 => ?_)
    · replace h := it_t h c_2
      refine lv_iconst (v := 0) hx hb dX4_has_16 (by decide) ?_
      obtain rfl := sm1 h
      exact KR H locs ls 17 dX4_has_17 (Or.inl rfl) hP hD hS
    · replace h := it_f h c_2
      refine lv_iconst (v := 1) hx hb dX4_has_12 (by decide) ?_
      refine lv_goto (tgt := 17) hx hb dX4_has_13 (by decide) ?_
      obtain rfl := sm1 h
      exact KR H locs ls 17 dX4_has_17 (Or.inr rfl) hP hD hS
set_option maxHeartbeats 4000000 in
set_option maxRecDepth 100000 in
theorem c_X4_has (l : Launch) (G : GT) (q_t q_t_cells : Nat) (sz : Nat) (t_size : Int32) (a1 : Int32) (r : Int32) (h : f_X4_has t_size a1 = some r) : Met l yX4_has wsX4_has ({ frames := 0, cells := 0, slots := 0, locals := 0 } : Room) (va_Pc [.ref q_t, .int a1] (pcW G [(q_t, .inr (3, [.ref q_t_cells, .int t_size]))] sz)) (va_Qi (fun r9 (_ : Unit) => r9 = r) (fun _ t => atW G (va_A [(q_t, .inr (3, [.ref q_t_cells, .int t_size]))] sz) [(q_t, .inr (3, [.ref q_t_cells, .int t_size]))] t) (va_A [(q_t, .inr (3, [.ref q_t_cells, .int t_size]))] sz)) 0 0 (va_A [(q_t, .inr (3, [.ref q_t_cells, .int t_size]))] sz) := by
  refine Met.ofW (cc := cX4_has) (maxL := 2) (ret := (some .boolean)) (by decide) rfl ?_
  intro p e s m args below meth c s₁ B hml hv
  obtain ⟨rfl, hsz, hP, hK, hD0⟩ := hv
  subst hsz
  have hD := hD0.self (sz := s.heap.size)
  generalize hAe : va_A [(q_t, .inr (3, [.ref q_t_cells, .int t_size]))] s.heap.size = A at hD ⊢
  have hA : ∀ q : Nat, s.heap.size ≤ q → A q := fun q h => by rw [← hAe]; exact Or.inr h
  have hl := lv_entry ([.ref q_t, .int a1]) (n := 2) (Nat.le_of_ble_eq_true rfl)
  rw [lg_entry_eq]
  refine k_X4_has ⟨B.exec, B.bytes, hml, findClass_of_methodNamed B.named, atoms_spec (ws := wsX4_has) B.pre⟩ G hK hA q_t q_t_cells _ _ _ h ?_ _ _ _ hP hD va_S.rf hl
  intro H locs ls pc hd hbo hP hD hS
  exact W.zret B.exec B.bytes B.returns (by rcases hbo with e | e <;> subst e <;> rfl) (fun t ht hW => ⟨⟨r, (), rfl, rfl, by rw [ht]; exact hP, hD⟩, hS.F ht⟩) hS.2.2 hd B.notSynchronized
set_option maxRecDepth 20000 in
theorem wd_X4_at_1 : Cond.fieldLink RX4 9 "PermanentDesk$Matrix" "cells" "[I" ∈ wsX4_at := List.mem_of_getElem? (i := 1) (by decide +kernel)
set_option maxRecDepth 20000 in
theorem wi_X4_at_X4 : ∀ w ∈ u_ws RX4 TX4 2, w ∈ wsX4_at := by decide +kernel
def f_X4_at (t_size : Int32) (t_cells : Nat → Int32) (a1 : Int32) (a2 : Int32) : Option Int32 :=
  (f_X4_has t_size a1).bind (fun r_1 =>
  if r_1 = 0 then
    some (0 : Int32)
  else
    (f_X4_has t_size a2).bind (fun r_4 =>
    if r_4 = 0 then
      some (0 : Int32)
    else
      gd (okI ((a1 * (7 : Int32)) + a2) 49) (
      some (t_cells ((a1 * (7 : Int32)) + a2).toNatClampNeg))))
set_option maxHeartbeats 4000000 in
set_option maxRecDepth 100000 in
theorem k_X4_at {p : Program} {l : Launch} {e : Env} {s : State} {m : MethodId} {args : Array Value} {below : List Frame} {meth : Method} {c : Code} {Q : State → Prop} {A0 : Nat → Prop} {H0 : Heap} (C : CallFix p m c cX4_at 3 s args wsX4_at RX4) (G : GT) (hK : gK G s) (hA : ∀ q : Nat, H0.size ≤ q → A0 q) (q_t q_t_cells : Nat) (t_size : Int32) (t_cells : Nat → Int32) (a1 : Int32) (a2 : Int32) (r : Int32) (h : f_X4_at t_size t_cells a1 a2 = some r) (KR : ∀ (H : Heap) (locs : List Loc) (ls : Array Slot) (pc : Nat), decode cX4_at pc = .ok (.ireturn, 1) → va_P G.1 vwCl [(q_t, .inr (3, [.ref q_t_cells, .int t_size])), (q_t_cells, .inl (G.2 0, 49, .inl t_cells))] H → va_D A0 [(q_t, .inr (3, [.ref q_t_cells, .int t_size])), (q_t_cells, .inl (G.2 0, 49, .inl t_cells))] → va_S A0 H0 H locs → W p l e ({ frames := 1, cells := 0, slots := 0, locals := 21 } : Room) s m args below meth c H locs 0 0 Q (F0 m pc ls [.int r])) : ∀ (H : Heap) (locs : List Loc) (ls : Array Slot), va_P G.1 vwCl [(q_t, .inr (3, [.ref q_t_cells, .int t_size])), (q_t_cells, .inl (G.2 0, 49, .inl t_cells))] H → va_D A0 [(q_t, .inr (3, [.ref q_t_cells, .int t_size])), (q_t_cells, .inl (G.2 0, 49, .inl t_cells))] → va_S A0 H0 H locs → lv_has ls 3 [(0, .ref q_t), (1, .int a1), (2, .int a2)] → W p l e ({ frames := 1, cells := 0, slots := 0, locals := 21 } : Room) s m args below meth c H locs 0 0 Q (F0 m 0 ls []) := by
  obtain ⟨hx, hb, hml, hown, hts⟩ := C
  intro H locs ls hP hD hS hl
  rw [f_X4_at] at h
  refine lv_aload_n hx hb dX4_at_0 rfl (lv_at hl 0 rfl) ?_
  refine lv_iload_n hx hb dX4_at_1 rfl (lv_at hl 1 rfl) ?_
  obtain ⟨r_1, hf_2, h⟩ := bd_ok h
  refine ck_Vi (rest := []) (wn := [(q_t, .inr (3, [.ref q_t_cells, .int t_size])), (q_t_cells, .inl (G.2 0, 49, .inl t_cells))]) ⟨hx, hb, hml, hown, hts⟩ hK hP hD hS hA [0] [1] [1, 0] (c_X4_has l G q_t q_t_cells _ t_size a1 _ hf_2) (cwV 1 hts gX4_at_X4_has rfl rfl rfl (by decide +kernel) ⟨Nat.le_of_ble_eq_true rfl, Nat.le_of_ble_eq_true rfl⟩) rfl rfl rfl rfl rfl rfl (by decide) rfl rfl rfl hl.1 rfl (Nat.le_of_ble_eq_true rfl) dX4_at_2 ⟨Nat.zero_le _, Nat.zero_le _⟩ (fun H locs hP hD hS => ?_)
  refine lv_if_eq (tgt := 30) hx hb dX4_at_5 (by decide) (fun c_3 => ?_) (fun c_3 => ?_)
  · replace h := it_t h c_3
    refine lv_iconst (v := 0) hx hb dX4_at_30 (by decide) ?_
    obtain rfl := sm1 h
    exact KR H locs ls 31 dX4_at_31 hP hD hS
  · replace h := it_f h c_3
    refine lv_aload_n hx hb dX4_at_8 rfl (lv_at hl 0 rfl) ?_
    refine lv_iload_n hx hb dX4_at_9 rfl (lv_at hl 2 rfl) ?_
    obtain ⟨r_4, hf_5, h⟩ := bd_ok h
    refine ck_Vi (rest := []) (wn := [(q_t, .inr (3, [.ref q_t_cells, .int t_size])), (q_t_cells, .inl (G.2 0, 49, .inl t_cells))]) ⟨hx, hb, hml, hown, hts⟩ hK hP hD hS hA [0] [1] [1, 0] (c_X4_has l G q_t q_t_cells _ t_size a2 _ hf_5) (cwV 1 hts gX4_at_X4_has rfl rfl rfl (by decide +kernel) ⟨Nat.le_of_ble_eq_true rfl, Nat.le_of_ble_eq_true rfl⟩) rfl rfl rfl rfl rfl rfl (by decide) rfl rfl rfl hl.1 rfl (Nat.le_of_ble_eq_true rfl) dX4_at_10 ⟨Nat.zero_le _, Nat.zero_le _⟩ (fun H locs hP hD hS => ?_)
    refine lv_if_eq (tgt := 30) hx hb dX4_at_13 (by decide) (fun c_6 => ?_) (fun c_6 => ?_)
    · replace h := it_t h c_6
      refine lv_iconst (v := 0) hx hb dX4_at_30 (by decide) ?_
      obtain rfl := sm1 h
      exact KR H locs ls 31 dX4_at_31 hP hD hS
    · replace h := it_f h c_6
      refine lv_aload_n hx hb dX4_at_16 rfl (lv_at hl 0 rfl) ?_
      refine va_get (D := G.1) (ci := 3) (v := .ref q_t_cells) (C := RX4) (T := TX4) (N := 2) hx hb hts wi_X4_at_X4 hown hK hP 0 rfl rfl 0 (by decide) (hts _ wd_X4_at_1) (fun _ h9 => h9) rfl dX4_at_17 ?_
      refine lv_iload_n hx hb dX4_at_20 rfl (lv_at hl 1 rfl) ?_
      refine lv_bipush (v := 7) hx hb dX4_at_21 (by decide) ?_
      refine lv_imul hx hb dX4_at_23 ?_
      refine lv_iload_n hx hb dX4_at_24 rfl (lv_at hl 2 rfl) ?_
      refine lv_iadd hx hb dX4_at_25 ?_
      obtain ⟨g_7, h⟩ := gd_ok h
      refine va_iald (D := G.1) hx hb hK hP 1 0 rfl rfl g_7 dX4_at_26 ?_
      refine lv_goto (tgt := 31) hx hb dX4_at_27 (by decide) ?_
      obtain rfl := sm1 h
      exact KR H locs ls 31 dX4_at_31 hP hD hS
set_option maxHeartbeats 4000000 in
set_option maxRecDepth 100000 in
theorem c_X4_at (l : Launch) (G : GT) (q_t q_t_cells : Nat) (sz : Nat) (t_size : Int32) (t_cells : Nat → Int32) (a1 : Int32) (a2 : Int32) (r : Int32) (h : f_X4_at t_size t_cells a1 a2 = some r) : Met l yX4_at wsX4_at ({ frames := 1, cells := 0, slots := 0, locals := 21 } : Room) (va_Pc [.ref q_t, .int a1, .int a2] (pcW G [(q_t, .inr (3, [.ref q_t_cells, .int t_size])), (q_t_cells, .inl (G.2 0, 49, .inl t_cells))] sz)) (va_Qi (fun r9 (_ : Unit) => r9 = r) (fun _ t => atW G (va_A [(q_t, .inr (3, [.ref q_t_cells, .int t_size])), (q_t_cells, .inl (G.2 0, 49, .inl t_cells))] sz) [(q_t, .inr (3, [.ref q_t_cells, .int t_size])), (q_t_cells, .inl (G.2 0, 49, .inl t_cells))] t) (va_A [(q_t, .inr (3, [.ref q_t_cells, .int t_size])), (q_t_cells, .inl (G.2 0, 49, .inl t_cells))] sz)) 0 0 (va_A [(q_t, .inr (3, [.ref q_t_cells, .int t_size])), (q_t_cells, .inl (G.2 0, 49, .inl t_cells))] sz) := by
  refine Met.ofW (cc := cX4_at) (maxL := 3) (ret := (some .int)) (by decide) rfl ?_
  intro p e s m args below meth c s₁ B hml hv
  obtain ⟨rfl, hsz, hP, hK, hD0⟩ := hv
  subst hsz
  have hD := hD0.self (sz := s.heap.size)
  generalize hAe : va_A [(q_t, .inr (3, [.ref q_t_cells, .int t_size])), (q_t_cells, .inl (G.2 0, 49, .inl t_cells))] s.heap.size = A at hD ⊢
  have hA : ∀ q : Nat, s.heap.size ≤ q → A q := fun q h => by rw [← hAe]; exact Or.inr h
  have hl := lv_entry ([.ref q_t, .int a1, .int a2]) (n := 3) (Nat.le_of_ble_eq_true rfl)
  rw [lg_entry_eq]
  refine k_X4_at ⟨B.exec, B.bytes, hml, findClass_of_methodNamed B.named, atoms_spec (ws := wsX4_at) B.pre⟩ G hK hA q_t q_t_cells _ _ _ _ _ h ?_ _ _ _ hP hD va_S.rf hl
  intro H locs ls pc hd hP hD hS
  exact W.iret B.exec B.bytes B.returns (fun t ht hW => ⟨⟨r, (), rfl, rfl, by rw [ht]; exact hP, hD⟩, hS.F ht⟩) hS.2.2 hd B.notSynchronized
set_option maxRecDepth 20000 in
theorem wd_X4_copyFrom_1 : Cond.fieldLink RX4 9 "PermanentDesk$Matrix" "cells" "[I" ∈ wsX4_copyFrom := List.mem_of_getElem? (i := 1) (by decide +kernel)
set_option maxRecDepth 20000 in
theorem wi_X4_copyFrom_X4 : ∀ w ∈ u_ws RX4 TX4 2, w ∈ wsX4_copyFrom := by decide +kernel
set_option maxRecDepth 20000 in
theorem wd_X4_copyFrom_2 : Cond.methodLink RX4 27 arraycopyName ∈ wsX4_copyFrom := List.mem_of_getElem? (i := 2) (by decide +kernel)
set_option maxRecDepth 20000 in
theorem wd_X4_copyFrom_3 : Cond.native arraycopyName ∈ wsX4_copyFrom := List.mem_of_getElem? (i := 3) (by decide +kernel)
set_option maxRecDepth 20000 in
theorem wd_X4_copyFrom_4 : Cond.static arraycopyName ∈ wsX4_copyFrom := List.mem_of_getElem? (i := 4) (by decide +kernel)
set_option maxRecDepth 20000 in
theorem wd_X4_copyFrom_5 : Cond.initialized "java/lang/System" ∈ wsX4_copyFrom := List.mem_of_getElem? (i := 5) (by decide +kernel)
set_option maxRecDepth 20000 in
theorem wd_X4_copyFrom_6 : Cond.fieldLink RX4 15 "PermanentDesk$Matrix" "size" "I" ∈ wsX4_copyFrom := List.mem_of_getElem? (i := 6) (by decide +kernel)
def f_X4_copyFrom (t_size : Int32) (t_cells : Nat → Int32) (a1_size : Int32) (a1_cells : Nat → Int32) : Option (Int32 × (Nat → Int32)) :=
  gd (¬ (0 : Int32) < 0 ∧ ¬ (0 : Int32) < 0 ∧ ¬ (49 : Int32) < 0 ∧ (0 : Int32).toNatClampNeg + (49 : Int32).toNatClampNeg ≤ 49 ∧ (0 : Int32).toNatClampNeg + (49 : Int32).toNatClampNeg ≤ 49) (
  pl ((va_cpy a1_cells t_cells (0 : Int32).toNatClampNeg (0 : Int32).toNatClampNeg (49 : Int32).toNatClampNeg) : Nat → Int32) (fun t_cells_2 =>
  some (a1_size, t_cells_2)))
set_option maxHeartbeats 4000000 in
set_option maxRecDepth 100000 in
theorem k_X4_copyFrom {p : Program} {l : Launch} {e : Env} {s : State} {m : MethodId} {args : Array Value} {below : List Frame} {meth : Method} {c : Code} {Q : State → Prop} {A0 : Nat → Prop} {H0 : Heap} (C : CallFix p m c cX4_copyFrom 2 s args wsX4_copyFrom RX4) (G : GT) (hK : gK G s) (hA : ∀ q : Nat, H0.size ≤ q → A0 q) (q_t q_t_cells q_a1 q_a1_cells : Nat) (t_size : Int32) (t_cells : Nat → Int32) (a1_size : Int32) (a1_cells : Nat → Int32) (o_t_size : Int32) (o_t_cells : Nat → Int32) (h : f_X4_copyFrom t_size t_cells a1_size a1_cells = some (o_t_size, o_t_cells)) (KR : ∀ (H : Heap) (locs : List Loc) (ls : Array Slot) (pc : Nat), decode cX4_copyFrom pc = .ok (.return_, 1) → va_P G.1 vwCl [(q_t, .inr (3, [.ref q_t_cells, .int o_t_size])), (q_t_cells, .inl (G.2 0, 49, .inl o_t_cells)), (q_a1, .inr (3, [.ref q_a1_cells, .int a1_size])), (q_a1_cells, .inl (G.2 0, 49, .inl a1_cells))] H → va_D A0 [(q_t, .inr (3, [.ref q_t_cells, .int o_t_size])), (q_t_cells, .inl (G.2 0, 49, .inl o_t_cells)), (q_a1, .inr (3, [.ref q_a1_cells, .int a1_size])), (q_a1_cells, .inl (G.2 0, 49, .inl a1_cells))] → va_S A0 H0 H locs → W p l e ({ frames := 1, cells := 0, slots := 0, locals := 60 } : Room) s m args below meth c H locs 0 0 Q (F0 m pc ls [])) : ∀ (H : Heap) (locs : List Loc) (ls : Array Slot), va_P G.1 vwCl [(q_t, .inr (3, [.ref q_t_cells, .int t_size])), (q_t_cells, .inl (G.2 0, 49, .inl t_cells)), (q_a1, .inr (3, [.ref q_a1_cells, .int a1_size])), (q_a1_cells, .inl (G.2 0, 49, .inl a1_cells))] H → va_D A0 [(q_t, .inr (3, [.ref q_t_cells, .int t_size])), (q_t_cells, .inl (G.2 0, 49, .inl t_cells)), (q_a1, .inr (3, [.ref q_a1_cells, .int a1_size])), (q_a1_cells, .inl (G.2 0, 49, .inl a1_cells))] → va_S A0 H0 H locs → lv_has ls 2 [(0, .ref q_t), (1, .ref q_a1)] → W p l e ({ frames := 1, cells := 0, slots := 0, locals := 60 } : Room) s m args below meth c H locs 0 0 Q (F0 m 0 ls []) := by
  obtain ⟨hx, hb, hml, hown, hts⟩ := C
  intro H locs ls hP hD hS hl
  rw [f_X4_copyFrom] at h
  refine lv_aload_n hx hb dX4_copyFrom_0 rfl (lv_at hl 1 rfl) ?_
  refine lv_ifnull hx hb dX4_copyFrom_1 ?_
  refine lv_aload_n hx hb dX4_copyFrom_4 rfl (lv_at hl 1 rfl) ?_
  refine va_get (D := G.1) (ci := 3) (v := .ref q_a1_cells) (C := RX4) (T := TX4) (N := 2) hx hb hts wi_X4_copyFrom_X4 hown hK hP 2 rfl rfl 0 (by decide) (hts _ wd_X4_copyFrom_1) (fun _ h9 => h9) rfl dX4_copyFrom_5 ?_
  refine lv_iconst (v := 0) hx hb dX4_copyFrom_8 (by decide) ?_
  refine lv_aload_n hx hb dX4_copyFrom_9 rfl (lv_at hl 0 rfl) ?_
  refine va_get (D := G.1) (ci := 3) (v := .ref q_t_cells) (C := RX4) (T := TX4) (N := 2) hx hb hts wi_X4_copyFrom_X4 hown hK hP 0 rfl rfl 0 (by decide) (hts _ wd_X4_copyFrom_1) (fun _ h9 => h9) rfl dX4_copyFrom_10 ?_
  refine lv_iconst (v := 0) hx hb dX4_copyFrom_13 (by decide) ?_
  refine lv_bipush (v := 49) hx hb dX4_copyFrom_14 (by decide) ?_
  obtain ⟨g_1, h⟩ := gd_ok h
  obtain ⟨t_cells_2, et_cells_2, h⟩ := pl_ok h
  refine st_copyi (D := G.1) (wn := [(q_t, .inr (3, [.ref q_t_cells, .int t_size])), (q_t_cells, .inl (G.2 0, 49, .inl t_cells_2)), (q_a1, .inr (3, [.ref q_a1_cells, .int a1_size])), (q_a1_cells, .inl (G.2 0, 49, .inl a1_cells))]) hx hb (hml.trans hl.1.symm) hown (hts _ wd_X4_copyFrom_2) (hts _ wd_X4_copyFrom_3) (hts _ wd_X4_copyFrom_4) (hts _ wd_X4_copyFrom_5) hK hP hD hS 3 1 0 0 rfl rfl rfl rfl rfl g_1.1 g_1.2.1 g_1.2.2.1 g_1.2.2.2.1 g_1.2.2.2.2 (fun _ _ => rfl) (Nat.le_of_ble_eq_true rfl) (Nat.le_of_ble_eq_true rfl) dX4_copyFrom_16 et_cells_2 rfl (fun H locs hP hD hS => ?_)
  refine lv_aload_n hx hb dX4_copyFrom_19 rfl (lv_at hl 0 rfl) ?_
  refine lv_aload_n hx hb dX4_copyFrom_20 rfl (lv_at hl 1 rfl) ?_
  refine va_get (D := G.1) (ci := 3) (v := .int a1_size) (C := RX4) (T := TX4) (N := 2) hx hb hts wi_X4_copyFrom_X4 hown hK hP 2 rfl rfl 1 (by decide) (hts _ wd_X4_copyFrom_6) (fun _ h9 => h9) rfl dX4_copyFrom_21 ?_
  refine st_put (D := G.1) (ci := 3) (v := .int a1_size) (ty := .int) (C := RX4) (T := TX4) (N := 2) (wn := [(q_t, .inr (3, [.ref q_t_cells, .int a1_size])), (q_t_cells, .inl (G.2 0, 49, .inl t_cells_2)), (q_a1, .inr (3, [.ref q_a1_cells, .int a1_size])), (q_a1_cells, .inl (G.2 0, 49, .inl a1_cells))]) hx hb hts wi_X4_copyFrom_X4 tyX4 tyX4_ok nmX4 hown hK hP hD hS 0 rfl rfl 1 (by decide) (hts _ wd_X4_copyFrom_6) (fun _ h9 => h9) rfl (by decide +kernel) rfl rfl (Nat.le_of_ble_eq_true rfl) dX4_copyFrom_24 rfl (fun H locs hP hD hS => ?_)
  obtain ⟨rfl, rfl⟩ := sm2 h
  exact KR H locs ls 27 dX4_copyFrom_27 hP hD hS
set_option maxHeartbeats 4000000 in
set_option maxRecDepth 100000 in
theorem c_X4_copyFrom (l : Launch) (G : GT) (q_t q_t_cells q_a1 q_a1_cells : Nat) (sz : Nat) (t_size : Int32) (t_cells : Nat → Int32) (a1_size : Int32) (a1_cells : Nat → Int32) (o_t_size : Int32) (o_t_cells : Nat → Int32) (h : f_X4_copyFrom t_size t_cells a1_size a1_cells = some (o_t_size, o_t_cells)) : Met l yX4_copyFrom wsX4_copyFrom ({ frames := 1, cells := 0, slots := 0, locals := 60 } : Room) (va_Pc [.ref q_t, .ref q_a1] (pcW G [(q_t, .inr (3, [.ref q_t_cells, .int t_size])), (q_t_cells, .inl (G.2 0, 49, .inl t_cells)), (q_a1, .inr (3, [.ref q_a1_cells, .int a1_size])), (q_a1_cells, .inl (G.2 0, 49, .inl a1_cells))] sz)) (va_Qv (fun (_ : Unit) => True) (fun _ t => atW G (va_A [(q_t, .inr (3, [.ref q_t_cells, .int t_size])), (q_t_cells, .inl (G.2 0, 49, .inl t_cells)), (q_a1, .inr (3, [.ref q_a1_cells, .int a1_size])), (q_a1_cells, .inl (G.2 0, 49, .inl a1_cells))] sz) [(q_t, .inr (3, [.ref q_t_cells, .int o_t_size])), (q_t_cells, .inl (G.2 0, 49, .inl o_t_cells)), (q_a1, .inr (3, [.ref q_a1_cells, .int a1_size])), (q_a1_cells, .inl (G.2 0, 49, .inl a1_cells))] t) (va_A [(q_t, .inr (3, [.ref q_t_cells, .int t_size])), (q_t_cells, .inl (G.2 0, 49, .inl t_cells)), (q_a1, .inr (3, [.ref q_a1_cells, .int a1_size])), (q_a1_cells, .inl (G.2 0, 49, .inl a1_cells))] sz)) 0 0 (va_A [(q_t, .inr (3, [.ref q_t_cells, .int t_size])), (q_t_cells, .inl (G.2 0, 49, .inl t_cells)), (q_a1, .inr (3, [.ref q_a1_cells, .int a1_size])), (q_a1_cells, .inl (G.2 0, 49, .inl a1_cells))] sz) := by
  refine Met.ofW (cc := cX4_copyFrom) (maxL := 2) (ret := none) (by decide) rfl ?_
  intro p e s m args below meth c s₁ B hml hv
  obtain ⟨rfl, hsz, hP, hK, hD0⟩ := hv
  subst hsz
  have hD := hD0.self (sz := s.heap.size)
  generalize hAe : va_A [(q_t, .inr (3, [.ref q_t_cells, .int t_size])), (q_t_cells, .inl (G.2 0, 49, .inl t_cells)), (q_a1, .inr (3, [.ref q_a1_cells, .int a1_size])), (q_a1_cells, .inl (G.2 0, 49, .inl a1_cells))] s.heap.size = A at hD ⊢
  have hA : ∀ q : Nat, s.heap.size ≤ q → A q := fun q h => by rw [← hAe]; exact Or.inr h
  have hl := lv_entry ([.ref q_t, .ref q_a1]) (n := 2) (Nat.le_of_ble_eq_true rfl)
  rw [lg_entry_eq]
  refine k_X4_copyFrom ⟨B.exec, B.bytes, hml, findClass_of_methodNamed B.named, atoms_spec (ws := wsX4_copyFrom) B.pre⟩ G hK hA q_t q_t_cells q_a1 q_a1_cells _ _ _ _ _ _ h ?_ _ _ _ hP hD va_S.rf hl
  intro H locs ls pc hd hP hD hS
  exact W.vret B.exec B.bytes B.returns (fun t ht hW => ⟨⟨(), rfl, trivial, by rw [ht]; exact hP, hD⟩, hS.F ht⟩) hS.2.2 hd B.notSynchronized
set_option maxRecDepth 20000 in
theorem wd_X4_put_1 : Cond.fieldLink RX4 9 "PermanentDesk$Matrix" "cells" "[I" ∈ wsX4_put := List.mem_of_getElem? (i := 1) (by decide +kernel)
set_option maxRecDepth 20000 in
theorem wi_X4_put_X4 : ∀ w ∈ u_ws RX4 TX4 2, w ∈ wsX4_put := by decide +kernel
def f_X4_put (t_size : Int32) (t_cells : Nat → Int32) (a1 : Int32) (a2 : Int32) (a3 : Int32) : Option (Nat → Int32) :=
  (f_X4_has t_size a1).bind (fun r_1 =>
  if r_1 = 0 then
    some t_cells
  else
    (f_X4_has t_size a2).bind (fun r_4 =>
    if r_4 = 0 then
      some t_cells
    else
      gd (okI ((a1 * (7 : Int32)) + a2) 49) (
      pl ((upd t_cells ((a1 * (7 : Int32)) + a2).toNatClampNeg a3) : Nat → Int32) (fun t_cells_8 =>
      some t_cells_8))))
set_option maxHeartbeats 4000000 in
set_option maxRecDepth 100000 in
theorem k_X4_put {p : Program} {l : Launch} {e : Env} {s : State} {m : MethodId} {args : Array Value} {below : List Frame} {meth : Method} {c : Code} {Q : State → Prop} {A0 : Nat → Prop} {H0 : Heap} (C : CallFix p m c cX4_put 4 s args wsX4_put RX4) (G : GT) (hK : gK G s) (hA : ∀ q : Nat, H0.size ≤ q → A0 q) (q_t q_t_cells : Nat) (t_size : Int32) (t_cells : Nat → Int32) (a1 : Int32) (a2 : Int32) (a3 : Int32) (o_t_cells : Nat → Int32) (h : f_X4_put t_size t_cells a1 a2 a3 = some o_t_cells) (KR : ∀ (H : Heap) (locs : List Loc) (ls : Array Slot) (pc : Nat), decode cX4_put pc = .ok (.return_, 1) → va_P G.1 vwCl [(q_t, .inr (3, [.ref q_t_cells, .int t_size])), (q_t_cells, .inl (G.2 0, 49, .inl o_t_cells))] H → va_D A0 [(q_t, .inr (3, [.ref q_t_cells, .int t_size])), (q_t_cells, .inl (G.2 0, 49, .inl o_t_cells))] → va_S A0 H0 H locs → W p l e ({ frames := 1, cells := 0, slots := 0, locals := 21 } : Room) s m args below meth c H locs 0 0 Q (F0 m pc ls [])) : ∀ (H : Heap) (locs : List Loc) (ls : Array Slot), va_P G.1 vwCl [(q_t, .inr (3, [.ref q_t_cells, .int t_size])), (q_t_cells, .inl (G.2 0, 49, .inl t_cells))] H → va_D A0 [(q_t, .inr (3, [.ref q_t_cells, .int t_size])), (q_t_cells, .inl (G.2 0, 49, .inl t_cells))] → va_S A0 H0 H locs → lv_has ls 4 [(0, .ref q_t), (1, .int a1), (2, .int a2), (3, .int a3)] → W p l e ({ frames := 1, cells := 0, slots := 0, locals := 21 } : Room) s m args below meth c H locs 0 0 Q (F0 m 0 ls []) := by
  obtain ⟨hx, hb, hml, hown, hts⟩ := C
  intro H locs ls hP hD hS hl
  rw [f_X4_put] at h
  refine lv_aload_n hx hb dX4_put_0 rfl (lv_at hl 0 rfl) ?_
  refine lv_iload_n hx hb dX4_put_1 rfl (lv_at hl 1 rfl) ?_
  obtain ⟨r_1, hf_2, h⟩ := bd_ok h
  refine ck_Vi (rest := []) (wn := [(q_t, .inr (3, [.ref q_t_cells, .int t_size])), (q_t_cells, .inl (G.2 0, 49, .inl t_cells))]) ⟨hx, hb, hml, hown, hts⟩ hK hP hD hS hA [0] [1] [1, 0] (c_X4_has l G q_t q_t_cells _ t_size a1 _ hf_2) (cwV 1 hts gX4_put_X4_has rfl rfl rfl (by decide +kernel) ⟨Nat.le_of_ble_eq_true rfl, Nat.le_of_ble_eq_true rfl⟩) rfl rfl rfl rfl rfl rfl (by decide) rfl rfl rfl hl.1 rfl (Nat.le_of_ble_eq_true rfl) dX4_put_2 ⟨Nat.zero_le _, Nat.zero_le _⟩ (fun H locs hP hD hS => ?_)
  refine lv_if_eq (tgt := 28) hx hb dX4_put_5 (by decide) (fun c_3 => ?_) (fun c_3 => ?_)
  · replace h := it_t h c_3
    obtain rfl := sm1 h
    exact KR H locs ls 28 dX4_put_28 hP hD hS
  · replace h := it_f h c_3
    refine lv_aload_n hx hb dX4_put_8 rfl (lv_at hl 0 rfl) ?_
    refine lv_iload_n hx hb dX4_put_9 rfl (lv_at hl 2 rfl) ?_
    obtain ⟨r_4, hf_5, h⟩ := bd_ok h
    refine ck_Vi (rest := []) (wn := [(q_t, .inr (3, [.ref q_t_cells, .int t_size])), (q_t_cells, .inl (G.2 0, 49, .inl t_cells))]) ⟨hx, hb, hml, hown, hts⟩ hK hP hD hS hA [0] [1] [1, 0] (c_X4_has l G q_t q_t_cells _ t_size a2 _ hf_5) (cwV 1 hts gX4_put_X4_has rfl rfl rfl (by decide +kernel) ⟨Nat.le_of_ble_eq_true rfl, Nat.le_of_ble_eq_true rfl⟩) rfl rfl rfl rfl rfl rfl (by decide) rfl rfl rfl hl.1 rfl (Nat.le_of_ble_eq_true rfl) dX4_put_10 ⟨Nat.zero_le _, Nat.zero_le _⟩ (fun H locs hP hD hS => ?_)
    refine lv_if_eq (tgt := 28) hx hb dX4_put_13 (by decide) (fun c_6 => ?_) (fun c_6 => ?_)
    · replace h := it_t h c_6
      obtain rfl := sm1 h
      exact KR H locs ls 28 dX4_put_28 hP hD hS
    · replace h := it_f h c_6
      refine lv_aload_n hx hb dX4_put_16 rfl (lv_at hl 0 rfl) ?_
      refine va_get (D := G.1) (ci := 3) (v := .ref q_t_cells) (C := RX4) (T := TX4) (N := 2) hx hb hts wi_X4_put_X4 hown hK hP 0 rfl rfl 0 (by decide) (hts _ wd_X4_put_1) (fun _ h9 => h9) rfl dX4_put_17 ?_
      refine lv_iload_n hx hb dX4_put_20 rfl (lv_at hl 1 rfl) ?_
      refine lv_bipush (v := 7) hx hb dX4_put_21 (by decide) ?_
      refine lv_imul hx hb dX4_put_23 ?_
      refine lv_iload_n hx hb dX4_put_24 rfl (lv_at hl 2 rfl) ?_
      refine lv_iadd hx hb dX4_put_25 ?_
      refine lv_iload_n hx hb dX4_put_26 rfl (lv_at hl 3 rfl) ?_
      obtain ⟨g_7, h⟩ := gd_ok h
      obtain ⟨t_cells_8, et_cells_8, h⟩ := pl_ok h
      refine st_i (D := G.1) (wn := [(q_t, .inr (3, [.ref q_t_cells, .int t_size])), (q_t_cells, .inl (G.2 0, 49, .inl t_cells_8))]) hx hb hK hP hD hS 1 0 rfl rfl g_7 dX4_put_27 et_cells_8 rfl (fun H locs hP hD hS => ?_)
      obtain rfl := sm1 h
      exact KR H locs ls 28 dX4_put_28 hP hD hS
set_option maxHeartbeats 4000000 in
set_option maxRecDepth 100000 in
theorem c_X4_put (l : Launch) (G : GT) (q_t q_t_cells : Nat) (sz : Nat) (t_size : Int32) (t_cells : Nat → Int32) (a1 : Int32) (a2 : Int32) (a3 : Int32) (o_t_cells : Nat → Int32) (h : f_X4_put t_size t_cells a1 a2 a3 = some o_t_cells) : Met l yX4_put wsX4_put ({ frames := 1, cells := 0, slots := 0, locals := 21 } : Room) (va_Pc [.ref q_t, .int a1, .int a2, .int a3] (pcW G [(q_t, .inr (3, [.ref q_t_cells, .int t_size])), (q_t_cells, .inl (G.2 0, 49, .inl t_cells))] sz)) (va_Qv (fun (_ : Unit) => True) (fun _ t => atW G (va_A [(q_t, .inr (3, [.ref q_t_cells, .int t_size])), (q_t_cells, .inl (G.2 0, 49, .inl t_cells))] sz) [(q_t, .inr (3, [.ref q_t_cells, .int t_size])), (q_t_cells, .inl (G.2 0, 49, .inl o_t_cells))] t) (va_A [(q_t, .inr (3, [.ref q_t_cells, .int t_size])), (q_t_cells, .inl (G.2 0, 49, .inl t_cells))] sz)) 0 0 (va_A [(q_t, .inr (3, [.ref q_t_cells, .int t_size])), (q_t_cells, .inl (G.2 0, 49, .inl t_cells))] sz) := by
  refine Met.ofW (cc := cX4_put) (maxL := 4) (ret := none) (by decide) rfl ?_
  intro p e s m args below meth c s₁ B hml hv
  obtain ⟨rfl, hsz, hP, hK, hD0⟩ := hv
  subst hsz
  have hD := hD0.self (sz := s.heap.size)
  generalize hAe : va_A [(q_t, .inr (3, [.ref q_t_cells, .int t_size])), (q_t_cells, .inl (G.2 0, 49, .inl t_cells))] s.heap.size = A at hD ⊢
  have hA : ∀ q : Nat, s.heap.size ≤ q → A q := fun q h => by rw [← hAe]; exact Or.inr h
  have hl := lv_entry ([.ref q_t, .int a1, .int a2, .int a3]) (n := 4) (Nat.le_of_ble_eq_true rfl)
  rw [lg_entry_eq]
  refine k_X4_put ⟨B.exec, B.bytes, hml, findClass_of_methodNamed B.named, atoms_spec (ws := wsX4_put) B.pre⟩ G hK hA q_t q_t_cells _ _ _ _ _ _ h ?_ _ _ _ hP hD va_S.rf hl
  intro H locs ls pc hd hP hD hS
  exact W.vret B.exec B.bytes B.returns (fun t ht hW => ⟨⟨(), rfl, trivial, by rw [ht]; exact hP, hD⟩, hS.F ht⟩) hS.2.2 hd B.notSynchronized
set_option maxRecDepth 20000 in
theorem wd_X4_resize_1 : Cond.fieldLink RX4 15 "PermanentDesk$Matrix" "size" "I" ∈ wsX4_resize := List.mem_of_getElem? (i := 1) (by decide +kernel)
set_option maxRecDepth 20000 in
theorem wi_X4_resize_X4 : ∀ w ∈ u_ws RX4 TX4 2, w ∈ wsX4_resize := by decide +kernel
def f_X4_resize (t_size : Int32) (a1 : Int32) : Option Int32 :=
  if a1 < (1 : Int32) then
    some t_size
  else
    if (7 : Int32) < a1 then
      some t_size
    else
      some a1
set_option maxHeartbeats 4000000 in
set_option maxRecDepth 100000 in
theorem k_X4_resize {p : Program} {l : Launch} {e : Env} {s : State} {m : MethodId} {args : Array Value} {below : List Frame} {meth : Method} {c : Code} {Q : State → Prop} {A0 : Nat → Prop} {H0 : Heap} (C : CallFix p m c cX4_resize 2 s args wsX4_resize RX4) (G : GT) (hK : gK G s) (hA : ∀ q : Nat, H0.size ≤ q → A0 q) (q_t q_t_cells : Nat) (t_size : Int32) (a1 : Int32) (o_t_size : Int32) (h : f_X4_resize t_size a1 = some o_t_size) (KR : ∀ (H : Heap) (locs : List Loc) (ls : Array Slot) (pc : Nat), decode cX4_resize pc = .ok (.return_, 1) → va_P G.1 vwCl [(q_t, .inr (3, [.ref q_t_cells, .int o_t_size]))] H → va_D A0 [(q_t, .inr (3, [.ref q_t_cells, .int o_t_size]))] → va_S A0 H0 H locs → W p l e ({ frames := 0, cells := 0, slots := 0, locals := 0 } : Room) s m args below meth c H locs 0 0 Q (F0 m pc ls [])) : ∀ (H : Heap) (locs : List Loc) (ls : Array Slot), va_P G.1 vwCl [(q_t, .inr (3, [.ref q_t_cells, .int t_size]))] H → va_D A0 [(q_t, .inr (3, [.ref q_t_cells, .int t_size]))] → va_S A0 H0 H locs → lv_has ls 2 [(0, .ref q_t), (1, .int a1)] → W p l e ({ frames := 0, cells := 0, slots := 0, locals := 0 } : Room) s m args below meth c H locs 0 0 Q (F0 m 0 ls []) := by
  obtain ⟨hx, hb, hml, hown, hts⟩ := C
  intro H locs ls hP hD hS hl
  rw [f_X4_resize] at h
  refine lv_iload_n hx hb dX4_resize_0 rfl (lv_at hl 1 rfl) ?_
  refine lv_iconst (v := 1) hx hb dX4_resize_1 (by decide) ?_
  refine lv_icmp_lt (tgt := 16) hx hb dX4_resize_2 (by decide) (fun c_1 => ?_) (fun c_1 => ?_)
  · replace h := it_t h c_1
    obtain rfl := sm1 h
    exact KR H locs ls 16 dX4_resize_16 hP hD hS
  · replace h := it_f h c_1
    refine lv_iload_n hx hb dX4_resize_5 rfl (lv_at hl 1 rfl) ?_
    refine lv_bipush (v := 7) hx hb dX4_resize_6 (by decide) ?_
    refine lv_icmp_gt (tgt := 16) hx hb dX4_resize_8 (by decide) (fun c_2 => ?_) (fun c_2 => ?_)
    · replace h := it_t h c_2
      obtain rfl := sm1 h
      exact KR H locs ls 16 dX4_resize_16 hP hD hS
    · replace h := it_f h c_2
      refine lv_aload_n hx hb dX4_resize_11 rfl (lv_at hl 0 rfl) ?_
      refine lv_iload_n hx hb dX4_resize_12 rfl (lv_at hl 1 rfl) ?_
      refine st_put (D := G.1) (ci := 3) (v := .int a1) (ty := .int) (C := RX4) (T := TX4) (N := 2) (wn := [(q_t, .inr (3, [.ref q_t_cells, .int a1]))]) hx hb hts wi_X4_resize_X4 tyX4 tyX4_ok nmX4 hown hK hP hD hS 0 rfl rfl 1 (by decide) (hts _ wd_X4_resize_1) (fun _ h9 => h9) rfl (by decide +kernel) rfl rfl (Nat.le_of_ble_eq_true rfl) dX4_resize_13 rfl (fun H locs hP hD hS => ?_)
      obtain rfl := sm1 h
      exact KR H locs ls 16 dX4_resize_16 hP hD hS
set_option maxHeartbeats 4000000 in
set_option maxRecDepth 100000 in
theorem c_X4_resize (l : Launch) (G : GT) (q_t q_t_cells : Nat) (sz : Nat) (t_size : Int32) (a1 : Int32) (o_t_size : Int32) (h : f_X4_resize t_size a1 = some o_t_size) : Met l yX4_resize wsX4_resize ({ frames := 0, cells := 0, slots := 0, locals := 0 } : Room) (va_Pc [.ref q_t, .int a1] (pcW G [(q_t, .inr (3, [.ref q_t_cells, .int t_size]))] sz)) (va_Qv (fun (_ : Unit) => True) (fun _ t => atW G (va_A [(q_t, .inr (3, [.ref q_t_cells, .int t_size]))] sz) [(q_t, .inr (3, [.ref q_t_cells, .int o_t_size]))] t) (va_A [(q_t, .inr (3, [.ref q_t_cells, .int t_size]))] sz)) 0 0 (va_A [(q_t, .inr (3, [.ref q_t_cells, .int t_size]))] sz) := by
  refine Met.ofW (cc := cX4_resize) (maxL := 2) (ret := none) (by decide) rfl ?_
  intro p e s m args below meth c s₁ B hml hv
  obtain ⟨rfl, hsz, hP, hK, hD0⟩ := hv
  subst hsz
  have hD := hD0.self (sz := s.heap.size)
  generalize hAe : va_A [(q_t, .inr (3, [.ref q_t_cells, .int t_size]))] s.heap.size = A at hD ⊢
  have hA : ∀ q : Nat, s.heap.size ≤ q → A q := fun q h => by rw [← hAe]; exact Or.inr h
  have hl := lv_entry ([.ref q_t, .int a1]) (n := 2) (Nat.le_of_ble_eq_true rfl)
  rw [lg_entry_eq]
  refine k_X4_resize ⟨B.exec, B.bytes, hml, findClass_of_methodNamed B.named, atoms_spec (ws := wsX4_resize) B.pre⟩ G hK hA q_t q_t_cells _ _ _ h ?_ _ _ _ hP hD va_S.rf hl
  intro H locs ls pc hd hP hD hS
  exact W.vret B.exec B.bytes B.returns (fun t ht hW => ⟨⟨(), rfl, trivial, by rw [ht]; exact hP, hD⟩, hS.F ht⟩) hS.2.2 hd B.notSynchronized
set_option maxRecDepth 20000 in
theorem wd_X4_fillWithZeros_1 : Cond.fieldLink RX4 9 "PermanentDesk$Matrix" "cells" "[I" ∈ wsX4_fillWithZeros := List.mem_of_getElem? (i := 1) (by decide +kernel)
set_option maxRecDepth 20000 in
theorem wi_X4_fillWithZeros_X4 : ∀ w ∈ u_ws RX4 TX4 2, w ∈ wsX4_fillWithZeros := by decide +kernel
def f_X4_fillWithZeros_L1  : (Int32 × (Nat → Int32)) → Option ((Int32 × (Nat → Int32)) ⊕ (Nat → Int32))
  | (x2, t_cells) =>
    if (49 : Int32) ≤ x2 then
      some (.inr t_cells)
    else
      gd (okI x2 49) (
      pl ((upd t_cells x2.toNatClampNeg (0 : Int32)) : Nat → Int32) (fun t_cells_3 =>
      pl ((x2 + (1 : Int32)) : Int32) (fun x2_4 =>
      some (.inl (x2_4, t_cells_3)))))
def f_X4_fillWithZeros (t_size : Int32) (t_cells : Nat → Int32) (a1 : Int32) : Option (Int32 × (Nat → Int32)) :=
  (lpN (f_X4_fillWithZeros_L1) FU ((0 : Int32), t_cells)).bind (fun t_cells_5 =>
  (f_X4_resize t_size a1).bind (fun t_size_8 =>
  some (t_size_8, t_cells_5)))
set_option maxHeartbeats 4000000 in
set_option maxRecDepth 100000 in
theorem l_X4_fillWithZeros_1 {p : Program} {l : Launch} {e : Env} {s : State} {m : MethodId} {args : Array Value} {below : List Frame} {meth : Method} {c : Code} {Q : State → Prop} {A0 : Nat → Prop} {H0 : Heap} (C : CallFix p m c cX4_fillWithZeros 3 s args wsX4_fillWithZeros RX4) (G : GT) (hK : gK G s) (hA : ∀ q : Nat, H0.size ≤ q → A0 q) (q_t q_t_cells : Nat) (x1 : Int32) (t_size : Int32) (E_t_cells : Nat → Int32) (K : ∀ (H : Heap) (locs : List Loc) (ls : Array Slot), va_P G.1 vwCl [(q_t, .inr (3, [.ref q_t_cells, .int t_size])), (q_t_cells, .inl (G.2 0, 49, .inl E_t_cells))] H → va_D A0 [(q_t, .inr (3, [.ref q_t_cells, .int t_size])), (q_t_cells, .inl (G.2 0, 49, .inl E_t_cells))] → va_S A0 H0 H locs → lv_has ls 3 [(0, .ref q_t), (1, .int x1)] → W p l e ({ frames := 1, cells := 0, slots := 0, locals := 21 } : Room) s m args below meth c H locs 0 0 Q (F0 m 21 ls [])) : ∀ (n : Nat) (x2 : Int32) (t_cells : Nat → Int32), lpN (f_X4_fillWithZeros_L1) n (x2, t_cells) = some E_t_cells → ∀ (H : Heap) (locs : List Loc) (ls : Array Slot), va_P G.1 vwCl [(q_t, .inr (3, [.ref q_t_cells, .int t_size])), (q_t_cells, .inl (G.2 0, 49, .inl t_cells))] H → va_D A0 [(q_t, .inr (3, [.ref q_t_cells, .int t_size])), (q_t_cells, .inl (G.2 0, 49, .inl t_cells))] → va_S A0 H0 H locs → lv_has ls 3 [(0, .ref q_t), (1, .int x1), (2, .int x2)] → W p l e ({ frames := 1, cells := 0, slots := 0, locals := 21 } : Room) s m args below meth c H locs 0 0 Q (F0 m 2 ls []) := by
  obtain ⟨hx, hb, hml, hown, hts⟩ := C
  intro n
  induction n with
  | zero => intro x2 t_cells h; exact absurd h (fun h => lp_0 h)
  | succ n ih =>
    intro x2 t_cells h H locs ls hP hD hS hl
    obtain ⟨y, h, hk⟩ := lp_s h
    rw [f_X4_fillWithZeros_L1] at h
    refine lv_iload_n hx hb dX4_fillWithZeros_2 rfl (lv_at hl 2 rfl) ?_
    refine lv_bipush (v := 49) hx hb dX4_fillWithZeros_3 (by decide) ?_
    refine lv_icmp_ge (tgt := 21) hx hb dX4_fillWithZeros_5 (by decide) (fun c_1 => ?_) (fun c_1 => ?_)
    · replace h := it_t h c_1
      obtain rfl := sm1 h
      obtain rfl := sm1 hk
      exact K H locs ls hP hD hS (lv_sub hl [0, 1] rfl)
    · replace h := it_f h c_1
      refine lv_aload_n hx hb dX4_fillWithZeros_8 rfl (lv_at hl 0 rfl) ?_
      refine va_get (D := G.1) (ci := 3) (v := .ref q_t_cells) (C := RX4) (T := TX4) (N := 2) hx hb hts wi_X4_fillWithZeros_X4 hown hK hP 0 rfl rfl 0 (by decide) (hts _ wd_X4_fillWithZeros_1) (fun _ h9 => h9) rfl dX4_fillWithZeros_9 ?_
      refine lv_iload_n hx hb dX4_fillWithZeros_12 rfl (lv_at hl 2 rfl) ?_
      refine lv_iconst (v := 0) hx hb dX4_fillWithZeros_13 (by decide) ?_
      obtain ⟨g_2, h⟩ := gd_ok h
      obtain ⟨t_cells_3, et_cells_3, h⟩ := pl_ok h
      refine st_i (D := G.1) (wn := [(q_t, .inr (3, [.ref q_t_cells, .int t_size])), (q_t_cells, .inl (G.2 0, 49, .inl t_cells_3))]) hx hb hK hP hD hS 1 0 rfl rfl g_2 dX4_fillWithZeros_14 et_cells_3 rfl (fun H locs hP hD hS => ?_)
      obtain ⟨x2_4, ex2_4, h⟩ := pl_ok h
      refine lv_iinc (v := x2_4) (lv' := [(2, .int x2_4), (0, .ref q_t), (1, .int x1)]) hx hb dX4_fillWithZeros_15 hl (k := 2) rfl (by rw [ex2_4]; rfl) (by decide) rfl (fun ls hl => ?_)
      refine lv_goto (tgt := 2) hx hb dX4_fillWithZeros_18 (by decide) ?_
      obtain rfl := sm1 h
      exact ih x2_4 t_cells_3 hk H locs ls hP hD hS (lv_sub hl [1, 2, 0] rfl)
set_option maxHeartbeats 4000000 in
set_option maxRecDepth 100000 in
theorem k_X4_fillWithZeros {p : Program} {l : Launch} {e : Env} {s : State} {m : MethodId} {args : Array Value} {below : List Frame} {meth : Method} {c : Code} {Q : State → Prop} {A0 : Nat → Prop} {H0 : Heap} (C : CallFix p m c cX4_fillWithZeros 3 s args wsX4_fillWithZeros RX4) (G : GT) (hK : gK G s) (hA : ∀ q : Nat, H0.size ≤ q → A0 q) (q_t q_t_cells : Nat) (t_size : Int32) (t_cells : Nat → Int32) (a1 : Int32) (o_t_size : Int32) (o_t_cells : Nat → Int32) (h : f_X4_fillWithZeros t_size t_cells a1 = some (o_t_size, o_t_cells)) (KR : ∀ (H : Heap) (locs : List Loc) (ls : Array Slot) (pc : Nat), decode cX4_fillWithZeros pc = .ok (.return_, 1) → va_P G.1 vwCl [(q_t, .inr (3, [.ref q_t_cells, .int o_t_size])), (q_t_cells, .inl (G.2 0, 49, .inl o_t_cells))] H → va_D A0 [(q_t, .inr (3, [.ref q_t_cells, .int o_t_size])), (q_t_cells, .inl (G.2 0, 49, .inl o_t_cells))] → va_S A0 H0 H locs → W p l e ({ frames := 1, cells := 0, slots := 0, locals := 21 } : Room) s m args below meth c H locs 0 0 Q (F0 m pc ls [])) : ∀ (H : Heap) (locs : List Loc) (ls : Array Slot), va_P G.1 vwCl [(q_t, .inr (3, [.ref q_t_cells, .int t_size])), (q_t_cells, .inl (G.2 0, 49, .inl t_cells))] H → va_D A0 [(q_t, .inr (3, [.ref q_t_cells, .int t_size])), (q_t_cells, .inl (G.2 0, 49, .inl t_cells))] → va_S A0 H0 H locs → lv_has ls 3 [(0, .ref q_t), (1, .int a1)] → W p l e ({ frames := 1, cells := 0, slots := 0, locals := 21 } : Room) s m args below meth c H locs 0 0 Q (F0 m 0 ls []) := by
  obtain ⟨hx, hb, hml, hown, hts⟩ := C
  intro H locs ls hP hD hS hl
  rw [f_X4_fillWithZeros] at h
  refine lv_iconst (v := 0) hx hb dX4_fillWithZeros_0 (by decide) ?_
  refine lv_istore_n (lv' := [(2, .int (0 : Int32)), (0, .ref q_t), (1, .int a1)]) hx hb dX4_fillWithZeros_1 rfl hl (by decide) rfl (fun ls hl => ?_)
  obtain ⟨t_cells_5, hz_7, h⟩ := bd_ok h
  refine l_X4_fillWithZeros_1 ⟨hx, hb, hml, hown, hts⟩ G hK hA q_t q_t_cells a1 t_size t_cells_5 ?_ FU (0 : Int32) t_cells hz_7 H locs ls hP hD hS (lv_sub hl [1, 2, 0] rfl)
  intro H locs ls hP hD hS hl
  refine lv_aload_n hx hb dX4_fillWithZeros_21 rfl (lv_at hl 0 rfl) ?_
  refine lv_iload_n hx hb dX4_fillWithZeros_22 rfl (lv_at hl 1 rfl) ?_
  obtain ⟨t_size_8, hf_9, h⟩ := bd_ok h
  refine ck_Vv (rest := []) (wn := [(q_t, .inr (3, [.ref q_t_cells, .int t_size_8])), (q_t_cells, .inl (G.2 0, 49, .inl t_cells_5))]) ⟨hx, hb, hml, hown, hts⟩ hK hP hD hS hA [0] [1] [1, 0] (c_X4_resize l G q_t q_t_cells _ t_size a1 _ hf_9) (cwV 1 hts gX4_fillWithZeros_X4_resize rfl rfl rfl (by decide +kernel) ⟨Nat.le_of_ble_eq_true rfl, Nat.le_of_ble_eq_true rfl⟩) rfl rfl rfl rfl rfl rfl (by decide) rfl rfl rfl hl.1 rfl (Nat.le_of_ble_eq_true rfl) dX4_fillWithZeros_23 ⟨Nat.zero_le _, Nat.zero_le _⟩ (fun H locs hP hD hS => ?_)
  obtain ⟨rfl, rfl⟩ := sm2 h
  exact KR H locs ls 26 dX4_fillWithZeros_26 hP hD hS
set_option maxHeartbeats 4000000 in
set_option maxRecDepth 100000 in
theorem c_X4_fillWithZeros (l : Launch) (G : GT) (q_t q_t_cells : Nat) (sz : Nat) (t_size : Int32) (t_cells : Nat → Int32) (a1 : Int32) (o_t_size : Int32) (o_t_cells : Nat → Int32) (h : f_X4_fillWithZeros t_size t_cells a1 = some (o_t_size, o_t_cells)) : Met l yX4_fillWithZeros wsX4_fillWithZeros ({ frames := 1, cells := 0, slots := 0, locals := 21 } : Room) (va_Pc [.ref q_t, .int a1] (pcW G [(q_t, .inr (3, [.ref q_t_cells, .int t_size])), (q_t_cells, .inl (G.2 0, 49, .inl t_cells))] sz)) (va_Qv (fun (_ : Unit) => True) (fun _ t => atW G (va_A [(q_t, .inr (3, [.ref q_t_cells, .int t_size])), (q_t_cells, .inl (G.2 0, 49, .inl t_cells))] sz) [(q_t, .inr (3, [.ref q_t_cells, .int o_t_size])), (q_t_cells, .inl (G.2 0, 49, .inl o_t_cells))] t) (va_A [(q_t, .inr (3, [.ref q_t_cells, .int t_size])), (q_t_cells, .inl (G.2 0, 49, .inl t_cells))] sz)) 0 0 (va_A [(q_t, .inr (3, [.ref q_t_cells, .int t_size])), (q_t_cells, .inl (G.2 0, 49, .inl t_cells))] sz) := by
  refine Met.ofW (cc := cX4_fillWithZeros) (maxL := 3) (ret := none) (by decide) rfl ?_
  intro p e s m args below meth c s₁ B hml hv
  obtain ⟨rfl, hsz, hP, hK, hD0⟩ := hv
  subst hsz
  have hD := hD0.self (sz := s.heap.size)
  generalize hAe : va_A [(q_t, .inr (3, [.ref q_t_cells, .int t_size])), (q_t_cells, .inl (G.2 0, 49, .inl t_cells))] s.heap.size = A at hD ⊢
  have hA : ∀ q : Nat, s.heap.size ≤ q → A q := fun q h => by rw [← hAe]; exact Or.inr h
  have hl := lv_entry ([.ref q_t, .int a1]) (n := 3) (Nat.le_of_ble_eq_true rfl)
  rw [lg_entry_eq]
  refine k_X4_fillWithZeros ⟨B.exec, B.bytes, hml, findClass_of_methodNamed B.named, atoms_spec (ws := wsX4_fillWithZeros) B.pre⟩ G hK hA q_t q_t_cells _ _ _ _ _ h ?_ _ _ _ hP hD va_S.rf hl
  intro H locs ls pc hd hP hD hS
  exact W.vret B.exec B.bytes B.returns (fun t ht hW => ⟨⟨(), rfl, trivial, by rw [ht]; exact hP, hD⟩, hS.F ht⟩) hS.2.2 hd B.notSynchronized
set_option maxRecDepth 20000 in
theorem wd_X4_markNotZero_1 : Cond.fieldLink RX4 15 "PermanentDesk$Matrix" "size" "I" ∈ wsX4_markNotZero := List.mem_of_getElem? (i := 1) (by decide +kernel)
set_option maxRecDepth 20000 in
theorem wi_X4_markNotZero_X4 : ∀ w ∈ u_ws RX4 TX4 2, w ∈ wsX4_markNotZero := by decide +kernel
def f_X4_markNotZero_L2 (x2 : Int32) (t_size : Int32) (a1_size : Int32) (a1_cells : Nat → Int32) : (Int32 × (Nat → Int32)) → Option ((Int32 × (Nat → Int32)) ⊕ (Nat → Int32))
  | (x3, t_cells) =>
    if t_size ≤ x3 then
      some (.inr t_cells)
    else
      (f_X4_at a1_size a1_cells x2 x3).bind (fun r_6 =>
      Option.bind (
        if r_6 = 0 then
          some (0 : Int32)
        else
          some (1 : Int32)) (fun y_9 =>
      (f_X4_put t_size t_cells x2 x3 y_9).bind (fun t_cells_10 =>
      pl ((x3 + (1 : Int32)) : Int32) (fun x3_12 =>
      some (.inl (x3_12, t_cells_10))))))
def f_X4_markNotZero_L1 (t_size : Int32) (a1_size : Int32) (a1_cells : Nat → Int32) : (Int32 × (Nat → Int32)) → Option ((Int32 × (Nat → Int32)) ⊕ (Nat → Int32))
  | (x2, t_cells) =>
    if t_size ≤ x2 then
      some (.inr t_cells)
    else
      (lpN (f_X4_markNotZero_L2 x2 t_size a1_size a1_cells) FU ((0 : Int32), t_cells)).bind (fun t_cells_13 =>
      pl ((x2 + (1 : Int32)) : Int32) (fun x2_16 =>
      some (.inl (x2_16, t_cells_13))))
def f_X4_markNotZero (t_size : Int32) (t_cells : Nat → Int32) (a1_size : Int32) (a1_cells : Nat → Int32) : Option (Int32 × (Nat → Int32)) :=
  (f_X4_fillWithZeros t_size t_cells a1_size).bind (fun (t_size_1, t_cells_2) =>
  (lpN (f_X4_markNotZero_L1 t_size_1 a1_size a1_cells) FU ((0 : Int32), t_cells_2)).bind (fun t_cells_17 =>
  some (t_size_1, t_cells_17)))
set_option maxHeartbeats 4000000 in
set_option maxRecDepth 100000 in
theorem l_X4_markNotZero_2 {p : Program} {l : Launch} {e : Env} {s : State} {m : MethodId} {args : Array Value} {below : List Frame} {meth : Method} {c : Code} {Q : State → Prop} {A0 : Nat → Prop} {H0 : Heap} (C : CallFix p m c cX4_markNotZero 4 s args wsX4_markNotZero RX4) (G : GT) (hK : gK G s) (hA : ∀ q : Nat, H0.size ≤ q → A0 q) (q_t q_t_cells q_a1 q_a1_cells : Nat) (x2 : Int32) (t_size : Int32) (a1_size : Int32) (a1_cells : Nat → Int32) (E_t_cells : Nat → Int32) (K : ∀ (H : Heap) (locs : List Loc) (ls : Array Slot), va_P G.1 vwCl [(q_t, .inr (3, [.ref q_t_cells, .int t_size])), (q_t_cells, .inl (G.2 0, 49, .inl E_t_cells)), (q_a1, .inr (3, [.ref q_a1_cells, .int a1_size])), (q_a1_cells, .inl (G.2 0, 49, .inl a1_cells))] H → va_D A0 [(q_t, .inr (3, [.ref q_t_cells, .int t_size])), (q_t_cells, .inl (G.2 0, 49, .inl E_t_cells)), (q_a1, .inr (3, [.ref q_a1_cells, .int a1_size])), (q_a1_cells, .inl (G.2 0, 49, .inl a1_cells))] → va_S A0 H0 H locs → lv_has ls 4 [(0, .ref q_t), (1, .ref q_a1), (2, .int x2)] → W p l e ({ frames := 2, cells := 0, slots := 0, locals := 44 } : Room) s m args below meth c H locs 0 0 Q (F0 m 54 ls [])) : ∀ (n : Nat) (x3 : Int32) (t_cells : Nat → Int32), lpN (f_X4_markNotZero_L2 x2 t_size a1_size a1_cells) n (x3, t_cells) = some E_t_cells → ∀ (H : Heap) (locs : List Loc) (ls : Array Slot), va_P G.1 vwCl [(q_t, .inr (3, [.ref q_t_cells, .int t_size])), (q_t_cells, .inl (G.2 0, 49, .inl t_cells)), (q_a1, .inr (3, [.ref q_a1_cells, .int a1_size])), (q_a1_cells, .inl (G.2 0, 49, .inl a1_cells))] H → va_D A0 [(q_t, .inr (3, [.ref q_t_cells, .int t_size])), (q_t_cells, .inl (G.2 0, 49, .inl t_cells)), (q_a1, .inr (3, [.ref q_a1_cells, .int a1_size])), (q_a1_cells, .inl (G.2 0, 49, .inl a1_cells))] → va_S A0 H0 H locs → lv_has ls 4 [(0, .ref q_t), (1, .ref q_a1), (2, .int x2), (3, .int x3)] → W p l e ({ frames := 2, cells := 0, slots := 0, locals := 44 } : Room) s m args below meth c H locs 0 0 Q (F0 m 20 ls []) := by
  obtain ⟨hx, hb, hml, hown, hts⟩ := C
  intro n
  induction n with
  | zero => intro x3 t_cells h; exact absurd h (fun h => lp_0 h)
  | succ n ih =>
    intro x3 t_cells h H locs ls hP hD hS hl
    obtain ⟨y, h, hk⟩ := lp_s h
    rw [f_X4_markNotZero_L2] at h
    refine lv_iload_n hx hb dX4_markNotZero_20 rfl (lv_at hl 3 rfl) ?_
    refine lv_aload_n hx hb dX4_markNotZero_21 rfl (lv_at hl 0 rfl) ?_
    refine va_get (D := G.1) (ci := 3) (v := .int t_size) (C := RX4) (T := TX4) (N := 2) hx hb hts wi_X4_markNotZero_X4 hown hK hP 0 rfl rfl 1 (by decide) (hts _ wd_X4_markNotZero_1) (fun _ h9 => h9) rfl dX4_markNotZero_22 ?_
    refine lv_icmp_ge (tgt := 54) hx hb dX4_markNotZero_25 (by decide) (fun c_5 => ?_) (fun c_5 => ?_)
    · replace h := it_t h c_5
      obtain rfl := sm1 h
      obtain rfl := sm1 hk
      exact K H locs ls hP hD hS (lv_sub hl [0, 1, 2] rfl)
    · replace h := it_f h c_5
      refine lv_aload_n hx hb dX4_markNotZero_28 rfl (lv_at hl 0 rfl) ?_
      refine lv_iload_n hx hb dX4_markNotZero_29 rfl (lv_at hl 2 rfl) ?_
      refine lv_iload_n hx hb dX4_markNotZero_30 rfl (lv_at hl 3 rfl) ?_
      refine lv_aload_n hx hb dX4_markNotZero_31 rfl (lv_at hl 1 rfl) ?_
      refine lv_iload_n hx hb dX4_markNotZero_32 rfl (lv_at hl 2 rfl) ?_
      refine lv_iload_n hx hb dX4_markNotZero_33 rfl (lv_at hl 3 rfl) ?_
      obtain ⟨r_6, hf_7, h⟩ := bd_ok h
      refine ck_Vi (rest := [.int x3, .int x2, .ref q_t]) (wn := [(q_t, .inr (3, [.ref q_t_cells, .int t_size])), (q_t_cells, .inl (G.2 0, 49, .inl t_cells)), (q_a1, .inr (3, [.ref q_a1_cells, .int a1_size])), (q_a1_cells, .inl (G.2 0, 49, .inl a1_cells))]) ⟨hx, hb, hml, hown, hts⟩ hK hP hD hS hA [2, 3] [0, 1] [0, 1, 2, 3] (c_X4_at l G q_a1 q_a1_cells _ a1_size a1_cells x2 x3 _ hf_7) (cwV 2 hts gX4_markNotZero_X4_at rfl rfl rfl (by decide +kernel) ⟨Nat.le_of_ble_eq_true rfl, Nat.le_of_ble_eq_true rfl⟩) rfl rfl rfl rfl rfl rfl (by decide) rfl rfl rfl hl.1 rfl (Nat.le_of_ble_eq_true rfl) dX4_markNotZero_34 ⟨Nat.zero_le _, Nat.zero_le _⟩ (fun H locs hP hD hS => ?_)
      obtain ⟨y_9, hr, h⟩ := bd_ok h
      have J : ∀ (H : Heap) (locs : List Loc) (ls : Array Slot), va_P G.1 vwCl [(q_t, .inr (3, [.ref q_t_cells, .int t_size])), (q_t_cells, .inl (G.2 0, 49, .inl t_cells)), (q_a1, .inr (3, [.ref q_a1_cells, .int a1_size])), (q_a1_cells, .inl (G.2 0, 49, .inl a1_cells))] H → va_D A0 [(q_t, .inr (3, [.ref q_t_cells, .int t_size])), (q_t_cells, .inl (G.2 0, 49, .inl t_cells)), (q_a1, .inr (3, [.ref q_a1_cells, .int a1_size])), (q_a1_cells, .inl (G.2 0, 49, .inl a1_cells))] → va_S A0 H0 H locs → lv_has ls 4 [(0, .ref q_t), (1, .ref q_a1), (2, .int x2), (3, .int x3)] → W p l e ({ frames := 2, cells := 0, slots := 0, locals := 44 } : Room) s m args below meth c H locs 0 0 Q (F0 m 45 ls [.int y_9, .int x3, .int x2, .ref q_t]) := by
        intro H locs ls hP hD hS hl
        obtain ⟨t_cells_10, hf_11, h⟩ := bd_ok h
        refine ck_Vv (rest := []) (wn := [(q_t, .inr (3, [.ref q_t_cells, .int t_size])), (q_t_cells, .inl (G.2 0, 49, .inl t_cells_10)), (q_a1, .inr (3, [.ref q_a1_cells, .int a1_size])), (q_a1_cells, .inl (G.2 0, 49, .inl a1_cells))]) ⟨hx, hb, hml, hown, hts⟩ hK hP hD hS hA [0, 1] [2, 3] [2, 3, 0, 1] (c_X4_put l G q_t q_t_cells _ t_size t_cells x2 x3 y_9 _ hf_11) (cwV 3 hts gX4_markNotZero_X4_put rfl rfl rfl (by decide +kernel) ⟨Nat.le_of_ble_eq_true rfl, Nat.le_of_ble_eq_true rfl⟩) rfl rfl rfl rfl rfl rfl (by decide) rfl rfl rfl hl.1 rfl (Nat.le_of_ble_eq_true rfl) dX4_markNotZero_45 ⟨Nat.zero_le _, Nat.zero_le _⟩ (fun H locs hP hD hS => ?_)
        obtain ⟨x3_12, ex3_12, h⟩ := pl_ok h
        refine lv_iinc (v := x3_12) (lv' := [(3, .int x3_12), (0, .ref q_t), (1, .ref q_a1), (2, .int x2)]) hx hb dX4_markNotZero_48 hl (k := 3) rfl (by rw [ex3_12]; rfl) (by decide) rfl (fun ls hl => ?_)
        refine lv_goto (tgt := 20) hx hb dX4_markNotZero_51 (by decide) ?_
        obtain rfl := sm1 h
        exact ih x3_12 t_cells_10 hk H locs ls hP hD hS (lv_sub hl [1, 2, 3, 0] rfl)
      replace h := hr
      clear hr
      refine lv_if_ne (tgt := 44) hx hb dX4_markNotZero_37 (by decide) (fun c_8 => ?_) (fun c_8 => ?_)
      · replace h := it_f h c_8
        refine lv_iconst (v := 1) hx hb dX4_markNotZero_44 (by decide) ?_
        obtain rfl := sm1 h
        exact J H locs ls hP hD hS (lv_sub hl [0, 1, 2, 3] rfl)
      · replace h := it_t h c_8
        refine lv_iconst (v := 0) hx hb dX4_markNotZero_40 (by decide) ?_
        refine lv_goto (tgt := 45) hx hb dX4_markNotZero_41 (by decide) ?_
        obtain rfl := sm1 h
        exact J H locs ls hP hD hS (lv_sub hl [0, 1, 2, 3] rfl)
set_option maxHeartbeats 4000000 in
set_option maxRecDepth 100000 in
theorem l_X4_markNotZero_1 {p : Program} {l : Launch} {e : Env} {s : State} {m : MethodId} {args : Array Value} {below : List Frame} {meth : Method} {c : Code} {Q : State → Prop} {A0 : Nat → Prop} {H0 : Heap} (C : CallFix p m c cX4_markNotZero 4 s args wsX4_markNotZero RX4) (G : GT) (hK : gK G s) (hA : ∀ q : Nat, H0.size ≤ q → A0 q) (q_t q_t_cells q_a1 q_a1_cells : Nat) (t_size : Int32) (a1_size : Int32) (a1_cells : Nat → Int32) (E_t_cells : Nat → Int32) (K : ∀ (H : Heap) (locs : List Loc) (ls : Array Slot), va_P G.1 vwCl [(q_t, .inr (3, [.ref q_t_cells, .int t_size])), (q_t_cells, .inl (G.2 0, 49, .inl E_t_cells)), (q_a1, .inr (3, [.ref q_a1_cells, .int a1_size])), (q_a1_cells, .inl (G.2 0, 49, .inl a1_cells))] H → va_D A0 [(q_t, .inr (3, [.ref q_t_cells, .int t_size])), (q_t_cells, .inl (G.2 0, 49, .inl E_t_cells)), (q_a1, .inr (3, [.ref q_a1_cells, .int a1_size])), (q_a1_cells, .inl (G.2 0, 49, .inl a1_cells))] → va_S A0 H0 H locs → lv_has ls 4 [] → W p l e ({ frames := 2, cells := 0, slots := 0, locals := 44 } : Room) s m args below meth c H locs 0 0 Q (F0 m 60 ls [])) : ∀ (n : Nat) (x2 : Int32) (t_cells : Nat → Int32), lpN (f_X4_markNotZero_L1 t_size a1_size a1_cells) n (x2, t_cells) = some E_t_cells → ∀ (H : Heap) (locs : List Loc) (ls : Array Slot), va_P G.1 vwCl [(q_t, .inr (3, [.ref q_t_cells, .int t_size])), (q_t_cells, .inl (G.2 0, 49, .inl t_cells)), (q_a1, .inr (3, [.ref q_a1_cells, .int a1_size])), (q_a1_cells, .inl (G.2 0, 49, .inl a1_cells))] H → va_D A0 [(q_t, .inr (3, [.ref q_t_cells, .int t_size])), (q_t_cells, .inl (G.2 0, 49, .inl t_cells)), (q_a1, .inr (3, [.ref q_a1_cells, .int a1_size])), (q_a1_cells, .inl (G.2 0, 49, .inl a1_cells))] → va_S A0 H0 H locs → lv_has ls 4 [(0, .ref q_t), (1, .ref q_a1), (2, .int x2)] → W p l e ({ frames := 2, cells := 0, slots := 0, locals := 44 } : Room) s m args below meth c H locs 0 0 Q (F0 m 10 ls []) := by
  obtain ⟨hx, hb, hml, hown, hts⟩ := C
  intro n
  induction n with
  | zero => intro x2 t_cells h; exact absurd h (fun h => lp_0 h)
  | succ n ih =>
    intro x2 t_cells h H locs ls hP hD hS hl
    obtain ⟨y, h, hk⟩ := lp_s h
    rw [f_X4_markNotZero_L1] at h
    refine lv_iload_n hx hb dX4_markNotZero_10 rfl (lv_at hl 2 rfl) ?_
    refine lv_aload_n hx hb dX4_markNotZero_11 rfl (lv_at hl 0 rfl) ?_
    refine va_get (D := G.1) (ci := 3) (v := .int t_size) (C := RX4) (T := TX4) (N := 2) hx hb hts wi_X4_markNotZero_X4 hown hK hP 0 rfl rfl 1 (by decide) (hts _ wd_X4_markNotZero_1) (fun _ h9 => h9) rfl dX4_markNotZero_12 ?_
    refine lv_icmp_ge (tgt := 60) hx hb dX4_markNotZero_15 (by decide) (fun c_4 => ?_) (fun c_4 => ?_)
    · replace h := it_t h c_4
      obtain rfl := sm1 h
      obtain rfl := sm1 hk
      exact K H locs ls hP hD hS (lv_sub hl [] rfl)
    · replace h := it_f h c_4
      refine lv_iconst (v := 0) hx hb dX4_markNotZero_18 (by decide) ?_
      refine lv_istore_n (lv' := [(3, .int (0 : Int32)), (0, .ref q_t), (1, .ref q_a1), (2, .int x2)]) hx hb dX4_markNotZero_19 rfl hl (by decide) rfl (fun ls hl => ?_)
      obtain ⟨t_cells_13, hz_15, h⟩ := bd_ok h
      refine l_X4_markNotZero_2 ⟨hx, hb, hml, hown, hts⟩ G hK hA q_t q_t_cells q_a1 q_a1_cells x2 t_size a1_size a1_cells t_cells_13 ?_ FU (0 : Int32) t_cells hz_15 H locs ls hP hD hS (lv_sub hl [1, 2, 3, 0] rfl)
      intro H locs ls hP hD hS hl
      obtain ⟨x2_16, ex2_16, h⟩ := pl_ok h
      refine lv_iinc (v := x2_16) (lv' := [(2, .int x2_16), (0, .ref q_t), (1, .ref q_a1)]) hx hb dX4_markNotZero_54 hl (k := 2) rfl (by rw [ex2_16]; rfl) (by decide) rfl (fun ls hl => ?_)
      refine lv_goto (tgt := 10) hx hb dX4_markNotZero_57 (by decide) ?_
      obtain rfl := sm1 h
      exact ih x2_16 t_cells_13 hk H locs ls hP hD hS (lv_sub hl [1, 2, 0] rfl)
set_option maxHeartbeats 4000000 in
set_option maxRecDepth 100000 in
theorem k_X4_markNotZero {p : Program} {l : Launch} {e : Env} {s : State} {m : MethodId} {args : Array Value} {below : List Frame} {meth : Method} {c : Code} {Q : State → Prop} {A0 : Nat → Prop} {H0 : Heap} (C : CallFix p m c cX4_markNotZero 4 s args wsX4_markNotZero RX4) (G : GT) (hK : gK G s) (hA : ∀ q : Nat, H0.size ≤ q → A0 q) (q_t q_t_cells q_a1 q_a1_cells : Nat) (t_size : Int32) (t_cells : Nat → Int32) (a1_size : Int32) (a1_cells : Nat → Int32) (o_t_size : Int32) (o_t_cells : Nat → Int32) (h : f_X4_markNotZero t_size t_cells a1_size a1_cells = some (o_t_size, o_t_cells)) (KR : ∀ (H : Heap) (locs : List Loc) (ls : Array Slot) (pc : Nat), decode cX4_markNotZero pc = .ok (.return_, 1) → va_P G.1 vwCl [(q_t, .inr (3, [.ref q_t_cells, .int o_t_size])), (q_t_cells, .inl (G.2 0, 49, .inl o_t_cells)), (q_a1, .inr (3, [.ref q_a1_cells, .int a1_size])), (q_a1_cells, .inl (G.2 0, 49, .inl a1_cells))] H → va_D A0 [(q_t, .inr (3, [.ref q_t_cells, .int o_t_size])), (q_t_cells, .inl (G.2 0, 49, .inl o_t_cells)), (q_a1, .inr (3, [.ref q_a1_cells, .int a1_size])), (q_a1_cells, .inl (G.2 0, 49, .inl a1_cells))] → va_S A0 H0 H locs → W p l e ({ frames := 2, cells := 0, slots := 0, locals := 44 } : Room) s m args below meth c H locs 0 0 Q (F0 m pc ls [])) : ∀ (H : Heap) (locs : List Loc) (ls : Array Slot), va_P G.1 vwCl [(q_t, .inr (3, [.ref q_t_cells, .int t_size])), (q_t_cells, .inl (G.2 0, 49, .inl t_cells)), (q_a1, .inr (3, [.ref q_a1_cells, .int a1_size])), (q_a1_cells, .inl (G.2 0, 49, .inl a1_cells))] H → va_D A0 [(q_t, .inr (3, [.ref q_t_cells, .int t_size])), (q_t_cells, .inl (G.2 0, 49, .inl t_cells)), (q_a1, .inr (3, [.ref q_a1_cells, .int a1_size])), (q_a1_cells, .inl (G.2 0, 49, .inl a1_cells))] → va_S A0 H0 H locs → lv_has ls 4 [(0, .ref q_t), (1, .ref q_a1)] → W p l e ({ frames := 2, cells := 0, slots := 0, locals := 44 } : Room) s m args below meth c H locs 0 0 Q (F0 m 0 ls []) := by
  obtain ⟨hx, hb, hml, hown, hts⟩ := C
  intro H locs ls hP hD hS hl
  rw [f_X4_markNotZero] at h
  refine lv_aload_n hx hb dX4_markNotZero_0 rfl (lv_at hl 0 rfl) ?_
  refine lv_aload_n hx hb dX4_markNotZero_1 rfl (lv_at hl 1 rfl) ?_
  refine va_get (D := G.1) (ci := 3) (v := .int a1_size) (C := RX4) (T := TX4) (N := 2) hx hb hts wi_X4_markNotZero_X4 hown hK hP 2 rfl rfl 1 (by decide) (hts _ wd_X4_markNotZero_1) (fun _ h9 => h9) rfl dX4_markNotZero_2 ?_
  obtain ⟨⟨t_size_1, t_cells_2⟩, hf_3, h⟩ := bd_ok h
  refine ck_Vv (rest := []) (wn := [(q_t, .inr (3, [.ref q_t_cells, .int t_size_1])), (q_t_cells, .inl (G.2 0, 49, .inl t_cells_2)), (q_a1, .inr (3, [.ref q_a1_cells, .int a1_size])), (q_a1_cells, .inl (G.2 0, 49, .inl a1_cells))]) ⟨hx, hb, hml, hown, hts⟩ hK hP hD hS hA [0, 1] [2, 3] [2, 3, 0, 1] (c_X4_fillWithZeros l G q_t q_t_cells _ t_size t_cells a1_size _ _ hf_3) (cwV 1 hts gX4_markNotZero_X4_fillWithZeros rfl rfl rfl (by decide +kernel) ⟨Nat.le_of_ble_eq_true rfl, Nat.le_of_ble_eq_true rfl⟩) rfl rfl rfl rfl rfl rfl (by decide) rfl rfl rfl hl.1 rfl (Nat.le_of_ble_eq_true rfl) dX4_markNotZero_5 ⟨Nat.zero_le _, Nat.zero_le _⟩ (fun H locs hP hD hS => ?_)
  refine lv_iconst (v := 0) hx hb dX4_markNotZero_8 (by decide) ?_
  refine lv_istore_n (lv' := [(2, .int (0 : Int32)), (0, .ref q_t), (1, .ref q_a1)]) hx hb dX4_markNotZero_9 rfl hl (by decide) rfl (fun ls hl => ?_)
  obtain ⟨t_cells_17, hz_19, h⟩ := bd_ok h
  refine l_X4_markNotZero_1 ⟨hx, hb, hml, hown, hts⟩ G hK hA q_t q_t_cells q_a1 q_a1_cells t_size_1 a1_size a1_cells t_cells_17 ?_ FU (0 : Int32) t_cells_2 hz_19 H locs ls hP hD hS (lv_sub hl [1, 2, 0] rfl)
  intro H locs ls hP hD hS hl
  obtain ⟨rfl, rfl⟩ := sm2 h
  exact KR H locs ls 60 dX4_markNotZero_60 hP hD hS
set_option maxHeartbeats 4000000 in
set_option maxRecDepth 100000 in
theorem c_X4_markNotZero (l : Launch) (G : GT) (q_t q_t_cells q_a1 q_a1_cells : Nat) (sz : Nat) (t_size : Int32) (t_cells : Nat → Int32) (a1_size : Int32) (a1_cells : Nat → Int32) (o_t_size : Int32) (o_t_cells : Nat → Int32) (h : f_X4_markNotZero t_size t_cells a1_size a1_cells = some (o_t_size, o_t_cells)) : Met l yX4_markNotZero wsX4_markNotZero ({ frames := 2, cells := 0, slots := 0, locals := 44 } : Room) (va_Pc [.ref q_t, .ref q_a1] (pcW G [(q_t, .inr (3, [.ref q_t_cells, .int t_size])), (q_t_cells, .inl (G.2 0, 49, .inl t_cells)), (q_a1, .inr (3, [.ref q_a1_cells, .int a1_size])), (q_a1_cells, .inl (G.2 0, 49, .inl a1_cells))] sz)) (va_Qv (fun (_ : Unit) => True) (fun _ t => atW G (va_A [(q_t, .inr (3, [.ref q_t_cells, .int t_size])), (q_t_cells, .inl (G.2 0, 49, .inl t_cells)), (q_a1, .inr (3, [.ref q_a1_cells, .int a1_size])), (q_a1_cells, .inl (G.2 0, 49, .inl a1_cells))] sz) [(q_t, .inr (3, [.ref q_t_cells, .int o_t_size])), (q_t_cells, .inl (G.2 0, 49, .inl o_t_cells)), (q_a1, .inr (3, [.ref q_a1_cells, .int a1_size])), (q_a1_cells, .inl (G.2 0, 49, .inl a1_cells))] t) (va_A [(q_t, .inr (3, [.ref q_t_cells, .int t_size])), (q_t_cells, .inl (G.2 0, 49, .inl t_cells)), (q_a1, .inr (3, [.ref q_a1_cells, .int a1_size])), (q_a1_cells, .inl (G.2 0, 49, .inl a1_cells))] sz)) 0 0 (va_A [(q_t, .inr (3, [.ref q_t_cells, .int t_size])), (q_t_cells, .inl (G.2 0, 49, .inl t_cells)), (q_a1, .inr (3, [.ref q_a1_cells, .int a1_size])), (q_a1_cells, .inl (G.2 0, 49, .inl a1_cells))] sz) := by
  refine Met.ofW (cc := cX4_markNotZero) (maxL := 4) (ret := none) (by decide) rfl ?_
  intro p e s m args below meth c s₁ B hml hv
  obtain ⟨rfl, hsz, hP, hK, hD0⟩ := hv
  subst hsz
  have hD := hD0.self (sz := s.heap.size)
  generalize hAe : va_A [(q_t, .inr (3, [.ref q_t_cells, .int t_size])), (q_t_cells, .inl (G.2 0, 49, .inl t_cells)), (q_a1, .inr (3, [.ref q_a1_cells, .int a1_size])), (q_a1_cells, .inl (G.2 0, 49, .inl a1_cells))] s.heap.size = A at hD ⊢
  have hA : ∀ q : Nat, s.heap.size ≤ q → A q := fun q h => by rw [← hAe]; exact Or.inr h
  have hl := lv_entry ([.ref q_t, .ref q_a1]) (n := 4) (Nat.le_of_ble_eq_true rfl)
  rw [lg_entry_eq]
  refine k_X4_markNotZero ⟨B.exec, B.bytes, hml, findClass_of_methodNamed B.named, atoms_spec (ws := wsX4_markNotZero) B.pre⟩ G hK hA q_t q_t_cells q_a1 q_a1_cells _ _ _ _ _ _ h ?_ _ _ _ hP hD va_S.rf hl
  intro H locs ls pc hd hP hD hS
  exact W.vret B.exec B.bytes B.returns (fun t ht hW => ⟨⟨(), rfl, trivial, by rw [ht]; exact hP, hD⟩, hS.F ht⟩) hS.2.2 hd B.notSynchronized
set_option maxRecDepth 20000 in
theorem wd_X4_countUnlike_1 : Cond.fieldLink RX4 15 "PermanentDesk$Matrix" "size" "I" ∈ wsX4_countUnlike := List.mem_of_getElem? (i := 1) (by decide +kernel)
set_option maxRecDepth 20000 in
theorem wi_X4_countUnlike_X4 : ∀ w ∈ u_ws RX4 TX4 2, w ∈ wsX4_countUnlike := by decide +kernel
def f_X4_countUnlike_L2 (x3 : Int32) (t_size : Int32) (t_cells : Nat → Int32) (a1_size : Int32) (a1_cells : Nat → Int32) : (Int32 × Int32) → Option ((Int32 × Int32) ⊕ Int32)
  | (x2, x4) =>
    if t_size ≤ x4 then
      some (.inr x2)
    else
      (f_X4_at t_size t_cells x3 x4).bind (fun r_3 =>
      (f_X4_at a1_size a1_cells x3 x4).bind (fun r_5 =>
      if r_3 = r_5 then
        pl ((x4 + (1 : Int32)) : Int32) (fun x4_8 =>
        some (.inl (x2, x4_8)))
      else
        pl ((x2 + (1 : Int32)) : Int32) (fun x2_9 =>
        pl ((x4 + (1 : Int32)) : Int32) (fun x4_10 =>
        some (.inl (x2_9, x4_10))))))
def f_X4_countUnlike_L1 (t_size : Int32) (t_cells : Nat → Int32) (a1_size : Int32) (a1_cells : Nat → Int32) : (Int32 × Int32) → Option ((Int32 × Int32) ⊕ Int32)
  | (x2, x3) =>
    if t_size ≤ x3 then
      some (.inr x2)
    else
      (lpN (f_X4_countUnlike_L2 x3 t_size t_cells a1_size a1_cells) FU (x2, (0 : Int32))).bind (fun x2_11 =>
      pl ((x3 + (1 : Int32)) : Int32) (fun x3_14 =>
      some (.inl (x2_11, x3_14))))
def f_X4_countUnlike (t_size : Int32) (t_cells : Nat → Int32) (a1_size : Int32) (a1_cells : Nat → Int32) : Option Int32 :=
  (lpN (f_X4_countUnlike_L1 t_size t_cells a1_size a1_cells) FU ((0 : Int32), (0 : Int32))).bind (fun x2_15 =>
  some x2_15)
set_option maxHeartbeats 4000000 in
set_option maxRecDepth 100000 in
theorem l_X4_countUnlike_2 {p : Program} {l : Launch} {e : Env} {s : State} {m : MethodId} {args : Array Value} {below : List Frame} {meth : Method} {c : Code} {Q : State → Prop} {A0 : Nat → Prop} {H0 : Heap} (C : CallFix p m c cX4_countUnlike 5 s args wsX4_countUnlike RX4) (G : GT) (hK : gK G s) (hA : ∀ q : Nat, H0.size ≤ q → A0 q) (q_t q_t_cells q_a1 q_a1_cells : Nat) (x3 : Int32) (t_size : Int32) (t_cells : Nat → Int32) (a1_size : Int32) (a1_cells : Nat → Int32) (E_x2 : Int32) (K : ∀ (H : Heap) (locs : List Loc) (ls : Array Slot), va_P G.1 vwCl [(q_t, .inr (3, [.ref q_t_cells, .int t_size])), (q_t_cells, .inl (G.2 0, 49, .inl t_cells)), (q_a1, .inr (3, [.ref q_a1_cells, .int a1_size])), (q_a1_cells, .inl (G.2 0, 49, .inl a1_cells))] H → va_D A0 [(q_t, .inr (3, [.ref q_t_cells, .int t_size])), (q_t_cells, .inl (G.2 0, 49, .inl t_cells)), (q_a1, .inr (3, [.ref q_a1_cells, .int a1_size])), (q_a1_cells, .inl (G.2 0, 49, .inl a1_cells))] → va_S A0 H0 H locs → lv_has ls 5 [(0, .ref q_t), (1, .ref q_a1), (2, .int E_x2), (3, .int x3)] → W p l e ({ frames := 2, cells := 0, slots := 0, locals := 43 } : Room) s m args below meth c H locs 0 0 Q (F0 m 50 ls [])) : ∀ (n : Nat) (x2 : Int32) (x4 : Int32), lpN (f_X4_countUnlike_L2 x3 t_size t_cells a1_size a1_cells) n (x2, x4) = some E_x2 → ∀ (H : Heap) (locs : List Loc) (ls : Array Slot), va_P G.1 vwCl [(q_t, .inr (3, [.ref q_t_cells, .int t_size])), (q_t_cells, .inl (G.2 0, 49, .inl t_cells)), (q_a1, .inr (3, [.ref q_a1_cells, .int a1_size])), (q_a1_cells, .inl (G.2 0, 49, .inl a1_cells))] H → va_D A0 [(q_t, .inr (3, [.ref q_t_cells, .int t_size])), (q_t_cells, .inl (G.2 0, 49, .inl t_cells)), (q_a1, .inr (3, [.ref q_a1_cells, .int a1_size])), (q_a1_cells, .inl (G.2 0, 49, .inl a1_cells))] → va_S A0 H0 H locs → lv_has ls 5 [(0, .ref q_t), (1, .ref q_a1), (2, .int x2), (3, .int x3), (4, .int x4)] → W p l e ({ frames := 2, cells := 0, slots := 0, locals := 43 } : Room) s m args below meth c H locs 0 0 Q (F0 m 15 ls []) := by
  obtain ⟨hx, hb, hml, hown, hts⟩ := C
  intro n
  induction n with
  | zero => intro x2 x4 h; exact absurd h (fun h => lp_0 h)
  | succ n ih =>
    intro x2 x4 h H locs ls hP hD hS hl
    obtain ⟨y, h, hk⟩ := lp_s h
    rw [f_X4_countUnlike_L2] at h
    refine lv_iload hx hb dX4_countUnlike_15 (lv_at hl 4 rfl) ?_
    refine lv_aload_n hx hb dX4_countUnlike_17 rfl (lv_at hl 0 rfl) ?_
    refine va_get (D := G.1) (ci := 3) (v := .int t_size) (C := RX4) (T := TX4) (N := 2) hx hb hts wi_X4_countUnlike_X4 hown hK hP 0 rfl rfl 1 (by decide) (hts _ wd_X4_countUnlike_1) (fun _ h9 => h9) rfl dX4_countUnlike_18 ?_
    refine lv_icmp_ge (tgt := 50) hx hb dX4_countUnlike_21 (by decide) (fun c_2 => ?_) (fun c_2 => ?_)
    · replace h := it_t h c_2
      obtain rfl := sm1 h
      obtain rfl := sm1 hk
      exact K H locs ls hP hD hS (lv_sub hl [0, 1, 2, 3] rfl)
    · replace h := it_f h c_2
      refine lv_aload_n hx hb dX4_countUnlike_24 rfl (lv_at hl 0 rfl) ?_
      refine lv_iload_n hx hb dX4_countUnlike_25 rfl (lv_at hl 3 rfl) ?_
      refine lv_iload hx hb dX4_countUnlike_26 (lv_at hl 4 rfl) ?_
      obtain ⟨r_3, hf_4, h⟩ := bd_ok h
      refine ck_Vi (rest := []) (wn := [(q_t, .inr (3, [.ref q_t_cells, .int t_size])), (q_t_cells, .inl (G.2 0, 49, .inl t_cells)), (q_a1, .inr (3, [.ref q_a1_cells, .int a1_size])), (q_a1_cells, .inl (G.2 0, 49, .inl a1_cells))]) ⟨hx, hb, hml, hown, hts⟩ hK hP hD hS hA [0, 1] [2, 3] [2, 3, 0, 1] (c_X4_at l G q_t q_t_cells _ t_size t_cells x3 x4 _ hf_4) (cwV 2 hts gX4_countUnlike_X4_at rfl rfl rfl (by decide +kernel) ⟨Nat.le_of_ble_eq_true rfl, Nat.le_of_ble_eq_true rfl⟩) rfl rfl rfl rfl rfl rfl (by decide) rfl rfl rfl hl.1 rfl (Nat.le_of_ble_eq_true rfl) dX4_countUnlike_28 ⟨Nat.zero_le _, Nat.zero_le _⟩ (fun H locs hP hD hS => ?_)
      refine lv_aload_n hx hb dX4_countUnlike_31 rfl (lv_at hl 1 rfl) ?_
      refine lv_iload_n hx hb dX4_countUnlike_32 rfl (lv_at hl 3 rfl) ?_
      refine lv_iload hx hb dX4_countUnlike_33 (lv_at hl 4 rfl) ?_
      obtain ⟨r_5, hf_6, h⟩ := bd_ok h
      refine ck_Vi (rest := [.int r_3]) (wn := [(q_t, .inr (3, [.ref q_t_cells, .int t_size])), (q_t_cells, .inl (G.2 0, 49, .inl t_cells)), (q_a1, .inr (3, [.ref q_a1_cells, .int a1_size])), (q_a1_cells, .inl (G.2 0, 49, .inl a1_cells))]) ⟨hx, hb, hml, hown, hts⟩ hK hP hD hS hA [2, 3] [0, 1] [0, 1, 2, 3] (c_X4_at l G q_a1 q_a1_cells _ a1_size a1_cells x3 x4 _ hf_6) (cwV 2 hts gX4_countUnlike_X4_at rfl rfl rfl (by decide +kernel) ⟨Nat.le_of_ble_eq_true rfl, Nat.le_of_ble_eq_true rfl⟩) rfl rfl rfl rfl rfl rfl (by decide) rfl rfl rfl hl.1 rfl (Nat.le_of_ble_eq_true rfl) dX4_countUnlike_35 ⟨Nat.zero_le _, Nat.zero_le _⟩ (fun H locs hP hD hS => ?_)
      refine lv_icmp_eq (tgt := 44) hx hb dX4_countUnlike_38 (by decide) (fun c_7 => ?_) (fun c_7 => ?_)
      · replace h := it_t h c_7
        obtain ⟨x4_8, ex4_8, h⟩ := pl_ok h
        refine lv_iinc (v := x4_8) (lv' := [(4, .int x4_8), (0, .ref q_t), (1, .ref q_a1), (2, .int x2), (3, .int x3)]) hx hb dX4_countUnlike_44 hl (k := 4) rfl (by rw [ex4_8]; rfl) (by decide) rfl (fun ls hl => ?_)
        refine lv_goto (tgt := 15) hx hb dX4_countUnlike_47 (by decide) ?_
        obtain rfl := sm1 h
        exact ih x2 x4_8 hk H locs ls hP hD hS (lv_sub hl [1, 2, 3, 4, 0] rfl)
      · replace h := it_f h c_7
        obtain ⟨x2_9, ex2_9, h⟩ := pl_ok h
        refine lv_iinc (v := x2_9) (lv' := [(2, .int x2_9), (0, .ref q_t), (1, .ref q_a1), (3, .int x3), (4, .int x4)]) hx hb dX4_countUnlike_41 hl (k := 2) rfl (by rw [ex2_9]; rfl) (by decide) rfl (fun ls hl => ?_)
        obtain ⟨x4_10, ex4_10, h⟩ := pl_ok h
        refine lv_iinc (v := x4_10) (lv' := [(4, .int x4_10), (2, .int x2_9), (0, .ref q_t), (1, .ref q_a1), (3, .int x3)]) hx hb dX4_countUnlike_44 hl (k := 4) rfl (by rw [ex4_10]; rfl) (by decide) rfl (fun ls hl => ?_)
        refine lv_goto (tgt := 15) hx hb dX4_countUnlike_47 (by decide) ?_
        obtain rfl := sm1 h
        exact ih x2_9 x4_10 hk H locs ls hP hD hS (lv_sub hl [2, 3, 1, 4, 0] rfl)
set_option maxHeartbeats 4000000 in
set_option maxRecDepth 100000 in
theorem l_X4_countUnlike_1 {p : Program} {l : Launch} {e : Env} {s : State} {m : MethodId} {args : Array Value} {below : List Frame} {meth : Method} {c : Code} {Q : State → Prop} {A0 : Nat → Prop} {H0 : Heap} (C : CallFix p m c cX4_countUnlike 5 s args wsX4_countUnlike RX4) (G : GT) (hK : gK G s) (hA : ∀ q : Nat, H0.size ≤ q → A0 q) (q_t q_t_cells q_a1 q_a1_cells : Nat) (t_size : Int32) (t_cells : Nat → Int32) (a1_size : Int32) (a1_cells : Nat → Int32) (E_x2 : Int32) (K : ∀ (H : Heap) (locs : List Loc) (ls : Array Slot), va_P G.1 vwCl [(q_t, .inr (3, [.ref q_t_cells, .int t_size])), (q_t_cells, .inl (G.2 0, 49, .inl t_cells)), (q_a1, .inr (3, [.ref q_a1_cells, .int a1_size])), (q_a1_cells, .inl (G.2 0, 49, .inl a1_cells))] H → va_D A0 [(q_t, .inr (3, [.ref q_t_cells, .int t_size])), (q_t_cells, .inl (G.2 0, 49, .inl t_cells)), (q_a1, .inr (3, [.ref q_a1_cells, .int a1_size])), (q_a1_cells, .inl (G.2 0, 49, .inl a1_cells))] → va_S A0 H0 H locs → lv_has ls 5 [(2, .int E_x2)] → W p l e ({ frames := 2, cells := 0, slots := 0, locals := 43 } : Room) s m args below meth c H locs 0 0 Q (F0 m 56 ls [])) : ∀ (n : Nat) (x2 : Int32) (x3 : Int32), lpN (f_X4_countUnlike_L1 t_size t_cells a1_size a1_cells) n (x2, x3) = some E_x2 → ∀ (H : Heap) (locs : List Loc) (ls : Array Slot), va_P G.1 vwCl [(q_t, .inr (3, [.ref q_t_cells, .int t_size])), (q_t_cells, .inl (G.2 0, 49, .inl t_cells)), (q_a1, .inr (3, [.ref q_a1_cells, .int a1_size])), (q_a1_cells, .inl (G.2 0, 49, .inl a1_cells))] H → va_D A0 [(q_t, .inr (3, [.ref q_t_cells, .int t_size])), (q_t_cells, .inl (G.2 0, 49, .inl t_cells)), (q_a1, .inr (3, [.ref q_a1_cells, .int a1_size])), (q_a1_cells, .inl (G.2 0, 49, .inl a1_cells))] → va_S A0 H0 H locs → lv_has ls 5 [(0, .ref q_t), (1, .ref q_a1), (2, .int x2), (3, .int x3)] → W p l e ({ frames := 2, cells := 0, slots := 0, locals := 43 } : Room) s m args below meth c H locs 0 0 Q (F0 m 4 ls []) := by
  obtain ⟨hx, hb, hml, hown, hts⟩ := C
  intro n
  induction n with
  | zero => intro x2 x3 h; exact absurd h (fun h => lp_0 h)
  | succ n ih =>
    intro x2 x3 h H locs ls hP hD hS hl
    obtain ⟨y, h, hk⟩ := lp_s h
    rw [f_X4_countUnlike_L1] at h
    refine lv_iload_n hx hb dX4_countUnlike_4 rfl (lv_at hl 3 rfl) ?_
    refine lv_aload_n hx hb dX4_countUnlike_5 rfl (lv_at hl 0 rfl) ?_
    refine va_get (D := G.1) (ci := 3) (v := .int t_size) (C := RX4) (T := TX4) (N := 2) hx hb hts wi_X4_countUnlike_X4 hown hK hP 0 rfl rfl 1 (by decide) (hts _ wd_X4_countUnlike_1) (fun _ h9 => h9) rfl dX4_countUnlike_6 ?_
    refine lv_icmp_ge (tgt := 56) hx hb dX4_countUnlike_9 (by decide) (fun c_1 => ?_) (fun c_1 => ?_)
    · replace h := it_t h c_1
      obtain rfl := sm1 h
      obtain rfl := sm1 hk
      exact K H locs ls hP hD hS (lv_sub hl [2] rfl)
    · replace h := it_f h c_1
      refine lv_iconst (v := 0) hx hb dX4_countUnlike_12 (by decide) ?_
      refine lv_istore (lv' := [(4, .int (0 : Int32)), (0, .ref q_t), (1, .ref q_a1), (2, .int x2), (3, .int x3)]) hx hb dX4_countUnlike_13 hl (by decide) rfl (fun ls hl => ?_)
      obtain ⟨x2_11, hz_13, h⟩ := bd_ok h
      refine l_X4_countUnlike_2 ⟨hx, hb, hml, hown, hts⟩ G hK hA q_t q_t_cells q_a1 q_a1_cells x3 t_size t_cells a1_size a1_cells x2_11 ?_ FU x2 (0 : Int32) hz_13 H locs ls hP hD hS (lv_sub hl [1, 2, 3, 4, 0] rfl)
      intro H locs ls hP hD hS hl
      obtain ⟨x3_14, ex3_14, h⟩ := pl_ok h
      refine lv_iinc (v := x3_14) (lv' := [(3, .int x3_14), (0, .ref q_t), (1, .ref q_a1), (2, .int x2_11)]) hx hb dX4_countUnlike_50 hl (k := 3) rfl (by rw [ex3_14]; rfl) (by decide) rfl (fun ls hl => ?_)
      refine lv_goto (tgt := 4) hx hb dX4_countUnlike_53 (by decide) ?_
      obtain rfl := sm1 h
      exact ih x2_11 x3_14 hk H locs ls hP hD hS (lv_sub hl [1, 2, 3, 0] rfl)
set_option maxHeartbeats 4000000 in
set_option maxRecDepth 100000 in
theorem k_X4_countUnlike {p : Program} {l : Launch} {e : Env} {s : State} {m : MethodId} {args : Array Value} {below : List Frame} {meth : Method} {c : Code} {Q : State → Prop} {A0 : Nat → Prop} {H0 : Heap} (C : CallFix p m c cX4_countUnlike 5 s args wsX4_countUnlike RX4) (G : GT) (hK : gK G s) (hA : ∀ q : Nat, H0.size ≤ q → A0 q) (q_t q_t_cells q_a1 q_a1_cells : Nat) (t_size : Int32) (t_cells : Nat → Int32) (a1_size : Int32) (a1_cells : Nat → Int32) (r : Int32) (h : f_X4_countUnlike t_size t_cells a1_size a1_cells = some r) (KR : ∀ (H : Heap) (locs : List Loc) (ls : Array Slot) (pc : Nat), decode cX4_countUnlike pc = .ok (.ireturn, 1) → va_P G.1 vwCl [(q_t, .inr (3, [.ref q_t_cells, .int t_size])), (q_t_cells, .inl (G.2 0, 49, .inl t_cells)), (q_a1, .inr (3, [.ref q_a1_cells, .int a1_size])), (q_a1_cells, .inl (G.2 0, 49, .inl a1_cells))] H → va_D A0 [(q_t, .inr (3, [.ref q_t_cells, .int t_size])), (q_t_cells, .inl (G.2 0, 49, .inl t_cells)), (q_a1, .inr (3, [.ref q_a1_cells, .int a1_size])), (q_a1_cells, .inl (G.2 0, 49, .inl a1_cells))] → va_S A0 H0 H locs → W p l e ({ frames := 2, cells := 0, slots := 0, locals := 43 } : Room) s m args below meth c H locs 0 0 Q (F0 m pc ls [.int r])) : ∀ (H : Heap) (locs : List Loc) (ls : Array Slot), va_P G.1 vwCl [(q_t, .inr (3, [.ref q_t_cells, .int t_size])), (q_t_cells, .inl (G.2 0, 49, .inl t_cells)), (q_a1, .inr (3, [.ref q_a1_cells, .int a1_size])), (q_a1_cells, .inl (G.2 0, 49, .inl a1_cells))] H → va_D A0 [(q_t, .inr (3, [.ref q_t_cells, .int t_size])), (q_t_cells, .inl (G.2 0, 49, .inl t_cells)), (q_a1, .inr (3, [.ref q_a1_cells, .int a1_size])), (q_a1_cells, .inl (G.2 0, 49, .inl a1_cells))] → va_S A0 H0 H locs → lv_has ls 5 [(0, .ref q_t), (1, .ref q_a1)] → W p l e ({ frames := 2, cells := 0, slots := 0, locals := 43 } : Room) s m args below meth c H locs 0 0 Q (F0 m 0 ls []) := by
  obtain ⟨hx, hb, hml, hown, hts⟩ := C
  intro H locs ls hP hD hS hl
  rw [f_X4_countUnlike] at h
  refine lv_iconst (v := 0) hx hb dX4_countUnlike_0 (by decide) ?_
  refine lv_istore_n (lv' := [(2, .int (0 : Int32)), (0, .ref q_t), (1, .ref q_a1)]) hx hb dX4_countUnlike_1 rfl hl (by decide) rfl (fun ls hl => ?_)
  refine lv_iconst (v := 0) hx hb dX4_countUnlike_2 (by decide) ?_
  refine lv_istore_n (lv' := [(3, .int (0 : Int32)), (2, .int (0 : Int32)), (0, .ref q_t), (1, .ref q_a1)]) hx hb dX4_countUnlike_3 rfl hl (by decide) rfl (fun ls hl => ?_)
  obtain ⟨x2_15, hz_17, h⟩ := bd_ok h
  refine l_X4_countUnlike_1 ⟨hx, hb, hml, hown, hts⟩ G hK hA q_t q_t_cells q_a1 q_a1_cells t_size t_cells a1_size a1_cells x2_15 ?_ FU (0 : Int32) (0 : Int32) hz_17 H locs ls hP hD hS (lv_sub hl [2, 3, 1, 0] rfl)
  intro H locs ls hP hD hS hl
  refine lv_iload_n hx hb dX4_countUnlike_56 rfl (lv_at hl 0 rfl) ?_
  obtain rfl := sm1 h
  exact KR H locs ls 57 dX4_countUnlike_57 hP hD hS
set_option maxHeartbeats 4000000 in
set_option maxRecDepth 100000 in
theorem c_X4_countUnlike (l : Launch) (G : GT) (q_t q_t_cells q_a1 q_a1_cells : Nat) (sz : Nat) (t_size : Int32) (t_cells : Nat → Int32) (a1_size : Int32) (a1_cells : Nat → Int32) (r : Int32) (h : f_X4_countUnlike t_size t_cells a1_size a1_cells = some r) : Met l yX4_countUnlike wsX4_countUnlike ({ frames := 2, cells := 0, slots := 0, locals := 43 } : Room) (va_Pc [.ref q_t, .ref q_a1] (pcW G [(q_t, .inr (3, [.ref q_t_cells, .int t_size])), (q_t_cells, .inl (G.2 0, 49, .inl t_cells)), (q_a1, .inr (3, [.ref q_a1_cells, .int a1_size])), (q_a1_cells, .inl (G.2 0, 49, .inl a1_cells))] sz)) (va_Qi (fun r9 (_ : Unit) => r9 = r) (fun _ t => atW G (va_A [(q_t, .inr (3, [.ref q_t_cells, .int t_size])), (q_t_cells, .inl (G.2 0, 49, .inl t_cells)), (q_a1, .inr (3, [.ref q_a1_cells, .int a1_size])), (q_a1_cells, .inl (G.2 0, 49, .inl a1_cells))] sz) [(q_t, .inr (3, [.ref q_t_cells, .int t_size])), (q_t_cells, .inl (G.2 0, 49, .inl t_cells)), (q_a1, .inr (3, [.ref q_a1_cells, .int a1_size])), (q_a1_cells, .inl (G.2 0, 49, .inl a1_cells))] t) (va_A [(q_t, .inr (3, [.ref q_t_cells, .int t_size])), (q_t_cells, .inl (G.2 0, 49, .inl t_cells)), (q_a1, .inr (3, [.ref q_a1_cells, .int a1_size])), (q_a1_cells, .inl (G.2 0, 49, .inl a1_cells))] sz)) 0 0 (va_A [(q_t, .inr (3, [.ref q_t_cells, .int t_size])), (q_t_cells, .inl (G.2 0, 49, .inl t_cells)), (q_a1, .inr (3, [.ref q_a1_cells, .int a1_size])), (q_a1_cells, .inl (G.2 0, 49, .inl a1_cells))] sz) := by
  refine Met.ofW (cc := cX4_countUnlike) (maxL := 5) (ret := (some .int)) (by decide) rfl ?_
  intro p e s m args below meth c s₁ B hml hv
  obtain ⟨rfl, hsz, hP, hK, hD0⟩ := hv
  subst hsz
  have hD := hD0.self (sz := s.heap.size)
  generalize hAe : va_A [(q_t, .inr (3, [.ref q_t_cells, .int t_size])), (q_t_cells, .inl (G.2 0, 49, .inl t_cells)), (q_a1, .inr (3, [.ref q_a1_cells, .int a1_size])), (q_a1_cells, .inl (G.2 0, 49, .inl a1_cells))] s.heap.size = A at hD ⊢
  have hA : ∀ q : Nat, s.heap.size ≤ q → A q := fun q h => by rw [← hAe]; exact Or.inr h
  have hl := lv_entry ([.ref q_t, .ref q_a1]) (n := 5) (Nat.le_of_ble_eq_true rfl)
  rw [lg_entry_eq]
  refine k_X4_countUnlike ⟨B.exec, B.bytes, hml, findClass_of_methodNamed B.named, atoms_spec (ws := wsX4_countUnlike) B.pre⟩ G hK hA q_t q_t_cells q_a1 q_a1_cells _ _ _ _ _ h ?_ _ _ _ hP hD va_S.rf hl
  intro H locs ls pc hd hP hD hS
  exact W.iret B.exec B.bytes B.returns (fun t ht hW => ⟨⟨r, (), rfl, rfl, by rw [ht]; exact hP, hD⟩, hS.F ht⟩) hS.2.2 hd B.notSynchronized
set_option maxRecDepth 20000 in
theorem wd_X4_columnsOfRow_1 : Cond.fieldLink RX4 15 "PermanentDesk$Matrix" "size" "I" ∈ wsX4_columnsOfRow := List.mem_of_getElem? (i := 1) (by decide +kernel)
set_option maxRecDepth 20000 in
theorem wi_X4_columnsOfRow_X4 : ∀ w ∈ u_ws RX4 TX4 2, w ∈ wsX4_columnsOfRow := by decide +kernel
def f_X4_columnsOfRow_L1 (x1 : Int32) (t_size : Int32) (t_cells : Nat → Int32) : (Int32 × Int32) → Option ((Int32 × Int32) ⊕ Int32)
  | (x2, x3) =>
    if t_size ≤ x3 then
      some (.inr x2)
    else
      (f_X4_at t_size t_cells x1 x3).bind (fun r_2 =>
      if r_2 = 0 then
        pl ((x3 + (1 : Int32)) : Int32) (fun x3_5 =>
        some (.inl (x2, x3_5)))
      else
        pl ((x2 ||| ((1 : Int32) <<< (x3 &&& 31))) : Int32) (fun x2_6 =>
        pl ((x3 + (1 : Int32)) : Int32) (fun x3_7 =>
        some (.inl (x2_6, x3_7)))))
def f_X4_columnsOfRow (t_size : Int32) (t_cells : Nat → Int32) (a1 : Int32) : Option Int32 :=
  (lpN (f_X4_columnsOfRow_L1 a1 t_size t_cells) FU ((0 : Int32), (0 : Int32))).bind (fun x2_8 =>
  some x2_8)
set_option maxHeartbeats 4000000 in
set_option maxRecDepth 100000 in
theorem l_X4_columnsOfRow_1 {p : Program} {l : Launch} {e : Env} {s : State} {m : MethodId} {args : Array Value} {below : List Frame} {meth : Method} {c : Code} {Q : State → Prop} {A0 : Nat → Prop} {H0 : Heap} (C : CallFix p m c cX4_columnsOfRow 4 s args wsX4_columnsOfRow RX4) (G : GT) (hK : gK G s) (hA : ∀ q : Nat, H0.size ≤ q → A0 q) (q_t q_t_cells : Nat) (x1 : Int32) (t_size : Int32) (t_cells : Nat → Int32) (E_x2 : Int32) (K : ∀ (H : Heap) (locs : List Loc) (ls : Array Slot), va_P G.1 vwCl [(q_t, .inr (3, [.ref q_t_cells, .int t_size])), (q_t_cells, .inl (G.2 0, 49, .inl t_cells))] H → va_D A0 [(q_t, .inr (3, [.ref q_t_cells, .int t_size])), (q_t_cells, .inl (G.2 0, 49, .inl t_cells))] → va_S A0 H0 H locs → lv_has ls 4 [(2, .int E_x2)] → W p l e ({ frames := 2, cells := 0, slots := 0, locals := 43 } : Room) s m args below meth c H locs 0 0 Q (F0 m 33 ls [])) : ∀ (n : Nat) (x2 : Int32) (x3 : Int32), lpN (f_X4_columnsOfRow_L1 x1 t_size t_cells) n (x2, x3) = some E_x2 → ∀ (H : Heap) (locs : List Loc) (ls : Array Slot), va_P G.1 vwCl [(q_t, .inr (3, [.ref q_t_cells, .int t_size])), (q_t_cells, .inl (G.2 0, 49, .inl t_cells))] H → va_D A0 [(q_t, .inr (3, [.ref q_t_cells, .int t_size])), (q_t_cells, .inl (G.2 0, 49, .inl t_cells))] → va_S A0 H0 H locs → lv_has ls 4 [(0, .ref q_t), (1, .int x1), (2, .int x2), (3, .int x3)] → W p l e ({ frames := 2, cells := 0, slots := 0, locals := 43 } : Room) s m args below meth c H locs 0 0 Q (F0 m 4 ls []) := by
  obtain ⟨hx, hb, hml, hown, hts⟩ := C
  intro n
  induction n with
  | zero => intro x2 x3 h; exact absurd h (fun h => lp_0 h)
  | succ n ih =>
    intro x2 x3 h H locs ls hP hD hS hl
    obtain ⟨y, h, hk⟩ := lp_s h
    rw [f_X4_columnsOfRow_L1] at h
    refine lv_iload_n hx hb dX4_columnsOfRow_4 rfl (lv_at hl 3 rfl) ?_
    refine lv_aload_n hx hb dX4_columnsOfRow_5 rfl (lv_at hl 0 rfl) ?_
    refine va_get (D := G.1) (ci := 3) (v := .int t_size) (C := RX4) (T := TX4) (N := 2) hx hb hts wi_X4_columnsOfRow_X4 hown hK hP 0 rfl rfl 1 (by decide) (hts _ wd_X4_columnsOfRow_1) (fun _ h9 => h9) rfl dX4_columnsOfRow_6 ?_
    refine lv_icmp_ge (tgt := 33) hx hb dX4_columnsOfRow_9 (by decide) (fun c_1 => ?_) (fun c_1 => ?_)
    · replace h := it_t h c_1
      obtain rfl := sm1 h
      obtain rfl := sm1 hk
      exact K H locs ls hP hD hS (lv_sub hl [2] rfl)
    · replace h := it_f h c_1
      refine lv_aload_n hx hb dX4_columnsOfRow_12 rfl (lv_at hl 0 rfl) ?_
      refine lv_iload_n hx hb dX4_columnsOfRow_13 rfl (lv_at hl 1 rfl) ?_
      refine lv_iload_n hx hb dX4_columnsOfRow_14 rfl (lv_at hl 3 rfl) ?_
      obtain ⟨r_2, hf_3, h⟩ := bd_ok h
      refine ck_Vi (rest := []) (wn := [(q_t, .inr (3, [.ref q_t_cells, .int t_size])), (q_t_cells, .inl (G.2 0, 49, .inl t_cells))]) ⟨hx, hb, hml, hown, hts⟩ hK hP hD hS hA [0, 1] [] [0, 1] (c_X4_at l G q_t q_t_cells _ t_size t_cells x1 x3 _ hf_3) (cwV 2 hts gX4_columnsOfRow_X4_at rfl rfl rfl (by decide +kernel) ⟨Nat.le_of_ble_eq_true rfl, Nat.le_of_ble_eq_true rfl⟩) rfl rfl rfl rfl rfl rfl (by decide) rfl rfl rfl hl.1 rfl (Nat.le_of_ble_eq_true rfl) dX4_columnsOfRow_15 ⟨Nat.zero_le _, Nat.zero_le _⟩ (fun H locs hP hD hS => ?_)
      refine lv_if_eq (tgt := 27) hx hb dX4_columnsOfRow_18 (by decide) (fun c_4 => ?_) (fun c_4 => ?_)
      · replace h := it_t h c_4
        obtain ⟨x3_5, ex3_5, h⟩ := pl_ok h
        refine lv_iinc (v := x3_5) (lv' := [(3, .int x3_5), (0, .ref q_t), (1, .int x1), (2, .int x2)]) hx hb dX4_columnsOfRow_27 hl (k := 3) rfl (by rw [ex3_5]; rfl) (by decide) rfl (fun ls hl => ?_)
        refine lv_goto (tgt := 4) hx hb dX4_columnsOfRow_30 (by decide) ?_
        obtain rfl := sm1 h
        exact ih x2 x3_5 hk H locs ls hP hD hS (lv_sub hl [1, 2, 3, 0] rfl)
      · replace h := it_f h c_4
        refine lv_iload_n hx hb dX4_columnsOfRow_21 rfl (lv_at hl 2 rfl) ?_
        refine lv_iconst (v := 1) hx hb dX4_columnsOfRow_22 (by decide) ?_
        refine lv_iload_n hx hb dX4_columnsOfRow_23 rfl (lv_at hl 3 rfl) ?_
        refine lv_ishl hx hb dX4_columnsOfRow_24 ?_
        refine lv_ior hx hb dX4_columnsOfRow_25 ?_
        refine lv_topi (fun x2_6 ex2_6 => ?_)
        replace h := pl_v h ex2_6
        refine lv_istore_n (lv' := [(2, .int x2_6), (0, .ref q_t), (1, .int x1), (3, .int x3)]) hx hb dX4_columnsOfRow_26 rfl hl (by decide) rfl (fun ls hl => ?_)
        obtain ⟨x3_7, ex3_7, h⟩ := pl_ok h
        refine lv_iinc (v := x3_7) (lv' := [(3, .int x3_7), (2, .int x2_6), (0, .ref q_t), (1, .int x1)]) hx hb dX4_columnsOfRow_27 hl (k := 3) rfl (by rw [ex3_7]; rfl) (by decide) rfl (fun ls hl => ?_)
        refine lv_goto (tgt := 4) hx hb dX4_columnsOfRow_30 (by decide) ?_
        obtain rfl := sm1 h
        exact ih x2_6 x3_7 hk H locs ls hP hD hS (lv_sub hl [2, 3, 1, 0] rfl)
set_option maxHeartbeats 4000000 in
set_option maxRecDepth 100000 in
theorem k_X4_columnsOfRow {p : Program} {l : Launch} {e : Env} {s : State} {m : MethodId} {args : Array Value} {below : List Frame} {meth : Method} {c : Code} {Q : State → Prop} {A0 : Nat → Prop} {H0 : Heap} (C : CallFix p m c cX4_columnsOfRow 4 s args wsX4_columnsOfRow RX4) (G : GT) (hK : gK G s) (hA : ∀ q : Nat, H0.size ≤ q → A0 q) (q_t q_t_cells : Nat) (t_size : Int32) (t_cells : Nat → Int32) (a1 : Int32) (r : Int32) (h : f_X4_columnsOfRow t_size t_cells a1 = some r) (KR : ∀ (H : Heap) (locs : List Loc) (ls : Array Slot) (pc : Nat), decode cX4_columnsOfRow pc = .ok (.ireturn, 1) → va_P G.1 vwCl [(q_t, .inr (3, [.ref q_t_cells, .int t_size])), (q_t_cells, .inl (G.2 0, 49, .inl t_cells))] H → va_D A0 [(q_t, .inr (3, [.ref q_t_cells, .int t_size])), (q_t_cells, .inl (G.2 0, 49, .inl t_cells))] → va_S A0 H0 H locs → W p l e ({ frames := 2, cells := 0, slots := 0, locals := 43 } : Room) s m args below meth c H locs 0 0 Q (F0 m pc ls [.int r])) : ∀ (H : Heap) (locs : List Loc) (ls : Array Slot), va_P G.1 vwCl [(q_t, .inr (3, [.ref q_t_cells, .int t_size])), (q_t_cells, .inl (G.2 0, 49, .inl t_cells))] H → va_D A0 [(q_t, .inr (3, [.ref q_t_cells, .int t_size])), (q_t_cells, .inl (G.2 0, 49, .inl t_cells))] → va_S A0 H0 H locs → lv_has ls 4 [(0, .ref q_t), (1, .int a1)] → W p l e ({ frames := 2, cells := 0, slots := 0, locals := 43 } : Room) s m args below meth c H locs 0 0 Q (F0 m 0 ls []) := by
  obtain ⟨hx, hb, hml, hown, hts⟩ := C
  intro H locs ls hP hD hS hl
  rw [f_X4_columnsOfRow] at h
  refine lv_iconst (v := 0) hx hb dX4_columnsOfRow_0 (by decide) ?_
  refine lv_istore_n (lv' := [(2, .int (0 : Int32)), (0, .ref q_t), (1, .int a1)]) hx hb dX4_columnsOfRow_1 rfl hl (by decide) rfl (fun ls hl => ?_)
  refine lv_iconst (v := 0) hx hb dX4_columnsOfRow_2 (by decide) ?_
  refine lv_istore_n (lv' := [(3, .int (0 : Int32)), (2, .int (0 : Int32)), (0, .ref q_t), (1, .int a1)]) hx hb dX4_columnsOfRow_3 rfl hl (by decide) rfl (fun ls hl => ?_)
  obtain ⟨x2_8, hz_10, h⟩ := bd_ok h
  refine l_X4_columnsOfRow_1 ⟨hx, hb, hml, hown, hts⟩ G hK hA q_t q_t_cells a1 t_size t_cells x2_8 ?_ FU (0 : Int32) (0 : Int32) hz_10 H locs ls hP hD hS (lv_sub hl [2, 3, 1, 0] rfl)
  intro H locs ls hP hD hS hl
  refine lv_iload_n hx hb dX4_columnsOfRow_33 rfl (lv_at hl 0 rfl) ?_
  obtain rfl := sm1 h
  exact KR H locs ls 34 dX4_columnsOfRow_34 hP hD hS
set_option maxHeartbeats 4000000 in
set_option maxRecDepth 100000 in
theorem c_X4_columnsOfRow (l : Launch) (G : GT) (q_t q_t_cells : Nat) (sz : Nat) (t_size : Int32) (t_cells : Nat → Int32) (a1 : Int32) (r : Int32) (h : f_X4_columnsOfRow t_size t_cells a1 = some r) : Met l yX4_columnsOfRow wsX4_columnsOfRow ({ frames := 2, cells := 0, slots := 0, locals := 43 } : Room) (va_Pc [.ref q_t, .int a1] (pcW G [(q_t, .inr (3, [.ref q_t_cells, .int t_size])), (q_t_cells, .inl (G.2 0, 49, .inl t_cells))] sz)) (va_Qi (fun r9 (_ : Unit) => r9 = r) (fun _ t => atW G (va_A [(q_t, .inr (3, [.ref q_t_cells, .int t_size])), (q_t_cells, .inl (G.2 0, 49, .inl t_cells))] sz) [(q_t, .inr (3, [.ref q_t_cells, .int t_size])), (q_t_cells, .inl (G.2 0, 49, .inl t_cells))] t) (va_A [(q_t, .inr (3, [.ref q_t_cells, .int t_size])), (q_t_cells, .inl (G.2 0, 49, .inl t_cells))] sz)) 0 0 (va_A [(q_t, .inr (3, [.ref q_t_cells, .int t_size])), (q_t_cells, .inl (G.2 0, 49, .inl t_cells))] sz) := by
  refine Met.ofW (cc := cX4_columnsOfRow) (maxL := 4) (ret := (some .int)) (by decide) rfl ?_
  intro p e s m args below meth c s₁ B hml hv
  obtain ⟨rfl, hsz, hP, hK, hD0⟩ := hv
  subst hsz
  have hD := hD0.self (sz := s.heap.size)
  generalize hAe : va_A [(q_t, .inr (3, [.ref q_t_cells, .int t_size])), (q_t_cells, .inl (G.2 0, 49, .inl t_cells))] s.heap.size = A at hD ⊢
  have hA : ∀ q : Nat, s.heap.size ≤ q → A q := fun q h => by rw [← hAe]; exact Or.inr h
  have hl := lv_entry ([.ref q_t, .int a1]) (n := 4) (Nat.le_of_ble_eq_true rfl)
  rw [lg_entry_eq]
  refine k_X4_columnsOfRow ⟨B.exec, B.bytes, hml, findClass_of_methodNamed B.named, atoms_spec (ws := wsX4_columnsOfRow) B.pre⟩ G hK hA q_t q_t_cells _ _ _ _ h ?_ _ _ _ hP hD va_S.rf hl
  intro H locs ls pc hd hP hD hS
  exact W.iret B.exec B.bytes B.returns (fun t ht hW => ⟨⟨r, (), rfl, rfl, by rw [ht]; exact hP, hD⟩, hS.F ht⟩) hS.2.2 hd B.notSynchronized
set_option maxRecDepth 20000 in
theorem wd_X4_countNotZero_1 : Cond.fieldLink RX4 15 "PermanentDesk$Matrix" "size" "I" ∈ wsX4_countNotZero := List.mem_of_getElem? (i := 1) (by decide +kernel)
set_option maxRecDepth 20000 in
theorem wi_X4_countNotZero_X4 : ∀ w ∈ u_ws RX4 TX4 2, w ∈ wsX4_countNotZero := by decide +kernel
def f_X4_countNotZero_L1 (t_size : Int32) (t_cells : Nat → Int32) : (Int32 × Int32) → Option ((Int32 × Int32) ⊕ Int32)
  | (x1, x2) =>
    if t_size ≤ x2 then
      some (.inr x1)
    else
      (f_X4_columnsOfRow t_size t_cells x2).bind (fun r_2 =>
      (f_J6_bitCount_0f7a4 r_2).bind (fun r_4 =>
      pl ((x1 + r_4) : Int32) (fun x1_6 =>
      pl ((x2 + (1 : Int32)) : Int32) (fun x2_7 =>
      some (.inl (x1_6, x2_7))))))
def f_X4_countNotZero (t_size : Int32) (t_cells : Nat → Int32) : Option Int32 :=
  (lpN (f_X4_countNotZero_L1 t_size t_cells) FU ((0 : Int32), (0 : Int32))).bind (fun x1_8 =>
  some x1_8)
set_option maxHeartbeats 4000000 in
set_option maxRecDepth 100000 in
theorem l_X4_countNotZero_1 {p : Program} {l : Launch} {e : Env} {s : State} {m : MethodId} {args : Array Value} {below : List Frame} {meth : Method} {c : Code} {Q : State → Prop} {A0 : Nat → Prop} {H0 : Heap} (C : CallFix p m c cX4_countNotZero 3 s args wsX4_countNotZero RX4) (G : GT) (hK : gK G s) (hA : ∀ q : Nat, H0.size ≤ q → A0 q) (q_t q_t_cells : Nat) (t_size : Int32) (t_cells : Nat → Int32) (E_x1 : Int32) (K : ∀ (H : Heap) (locs : List Loc) (ls : Array Slot), va_P G.1 vwCl [(q_t, .inr (3, [.ref q_t_cells, .int t_size])), (q_t_cells, .inl (G.2 0, 49, .inl t_cells))] H → va_D A0 [(q_t, .inr (3, [.ref q_t_cells, .int t_size])), (q_t_cells, .inl (G.2 0, 49, .inl t_cells))] → va_S A0 H0 H locs → lv_has ls 3 [(1, .int E_x1)] → W p l e ({ frames := 3, cells := 0, slots := 0, locals := 66 } : Room) s m args below meth c H locs 0 0 Q (F0 m 29 ls [])) : ∀ (n : Nat) (x1 : Int32) (x2 : Int32), lpN (f_X4_countNotZero_L1 t_size t_cells) n (x1, x2) = some E_x1 → ∀ (H : Heap) (locs : List Loc) (ls : Array Slot), va_P G.1 vwCl [(q_t, .inr (3, [.ref q_t_cells, .int t_size])), (q_t_cells, .inl (G.2 0, 49, .inl t_cells))] H → va_D A0 [(q_t, .inr (3, [.ref q_t_cells, .int t_size])), (q_t_cells, .inl (G.2 0, 49, .inl t_cells))] → va_S A0 H0 H locs → lv_has ls 3 [(0, .ref q_t), (1, .int x1), (2, .int x2)] → W p l e ({ frames := 3, cells := 0, slots := 0, locals := 66 } : Room) s m args below meth c H locs 0 0 Q (F0 m 4 ls []) := by
  obtain ⟨hx, hb, hml, hown, hts⟩ := C
  intro n
  induction n with
  | zero => intro x1 x2 h; exact absurd h (fun h => lp_0 h)
  | succ n ih =>
    intro x1 x2 h H locs ls hP hD hS hl
    obtain ⟨y, h, hk⟩ := lp_s h
    rw [f_X4_countNotZero_L1] at h
    refine lv_iload_n hx hb dX4_countNotZero_4 rfl (lv_at hl 2 rfl) ?_
    refine lv_aload_n hx hb dX4_countNotZero_5 rfl (lv_at hl 0 rfl) ?_
    refine va_get (D := G.1) (ci := 3) (v := .int t_size) (C := RX4) (T := TX4) (N := 2) hx hb hts wi_X4_countNotZero_X4 hown hK hP 0 rfl rfl 1 (by decide) (hts _ wd_X4_countNotZero_1) (fun _ h9 => h9) rfl dX4_countNotZero_6 ?_
    refine lv_icmp_ge (tgt := 29) hx hb dX4_countNotZero_9 (by decide) (fun c_1 => ?_) (fun c_1 => ?_)
    · replace h := it_t h c_1
      obtain rfl := sm1 h
      obtain rfl := sm1 hk
      exact K H locs ls hP hD hS (lv_sub hl [1] rfl)
    · replace h := it_f h c_1
      refine lv_iload_n hx hb dX4_countNotZero_12 rfl (lv_at hl 1 rfl) ?_
      refine lv_aload_n hx hb dX4_countNotZero_13 rfl (lv_at hl 0 rfl) ?_
      refine lv_iload_n hx hb dX4_countNotZero_14 rfl (lv_at hl 2 rfl) ?_
      obtain ⟨r_2, hf_3, h⟩ := bd_ok h
      refine ck_Vi (rest := [.int x1]) (wn := [(q_t, .inr (3, [.ref q_t_cells, .int t_size])), (q_t_cells, .inl (G.2 0, 49, .inl t_cells))]) ⟨hx, hb, hml, hown, hts⟩ hK hP hD hS hA [0, 1] [] [0, 1] (c_X4_columnsOfRow l G q_t q_t_cells _ t_size t_cells x2 _ hf_3) (cwV 1 hts gX4_countNotZero_X4_columnsOfRow rfl rfl rfl (by decide +kernel) ⟨Nat.le_of_ble_eq_true rfl, Nat.le_of_ble_eq_true rfl⟩) rfl rfl rfl rfl rfl rfl (by decide) rfl rfl rfl hl.1 rfl (Nat.le_of_ble_eq_true rfl) dX4_countNotZero_15 ⟨Nat.zero_le _, Nat.zero_le _⟩ (fun H locs hP hD hS => ?_)
      obtain ⟨r_4, hf_5, h⟩ := bd_ok h
      refine ck_Si (rest := [.int x1]) (wn := [(q_t, .inr (3, [.ref q_t_cells, .int t_size])), (q_t_cells, .inl (G.2 0, 49, .inl t_cells))]) ⟨hx, hb, hml, hown, hts⟩ hK hP hD hS hA [] [0, 1] [0, 1] (c_J6_bitCount_0f7a4 l G _ r_2 _ hf_5) (va_cwS 1 hts gX4_countNotZero_J6_bitCount_0f7a4 rfl rfl rfl (by decide +kernel) ⟨Nat.le_of_ble_eq_true rfl, Nat.le_of_ble_eq_true rfl⟩) rfl rfl rfl rfl (by decide) rfl rfl rfl hl.1 rfl (Nat.le_of_ble_eq_true rfl) dX4_countNotZero_18 ⟨Nat.zero_le _, Nat.zero_le _⟩ (fun H locs hP hD hS => ?_)
      refine lv_iadd hx hb dX4_countNotZero_21 ?_
      refine lv_topi (fun x1_6 ex1_6 => ?_)
      replace h := pl_v h ex1_6
      refine lv_istore_n (lv' := [(1, .int x1_6), (0, .ref q_t), (2, .int x2)]) hx hb dX4_countNotZero_22 rfl hl (by decide) rfl (fun ls hl => ?_)
      obtain ⟨x2_7, ex2_7, h⟩ := pl_ok h
      refine lv_iinc (v := x2_7) (lv' := [(2, .int x2_7), (1, .int x1_6), (0, .ref q_t)]) hx hb dX4_countNotZero_23 hl (k := 2) rfl (by rw [ex2_7]; rfl) (by decide) rfl (fun ls hl => ?_)
      refine lv_goto (tgt := 4) hx hb dX4_countNotZero_26 (by decide) ?_
      obtain rfl := sm1 h
      exact ih x1_6 x2_7 hk H locs ls hP hD hS (lv_sub hl [2, 1, 0] rfl)
set_option maxHeartbeats 4000000 in
set_option maxRecDepth 100000 in
theorem k_X4_countNotZero {p : Program} {l : Launch} {e : Env} {s : State} {m : MethodId} {args : Array Value} {below : List Frame} {meth : Method} {c : Code} {Q : State → Prop} {A0 : Nat → Prop} {H0 : Heap} (C : CallFix p m c cX4_countNotZero 3 s args wsX4_countNotZero RX4) (G : GT) (hK : gK G s) (hA : ∀ q : Nat, H0.size ≤ q → A0 q) (q_t q_t_cells : Nat) (t_size : Int32) (t_cells : Nat → Int32) (r : Int32) (h : f_X4_countNotZero t_size t_cells = some r) (KR : ∀ (H : Heap) (locs : List Loc) (ls : Array Slot) (pc : Nat), decode cX4_countNotZero pc = .ok (.ireturn, 1) → va_P G.1 vwCl [(q_t, .inr (3, [.ref q_t_cells, .int t_size])), (q_t_cells, .inl (G.2 0, 49, .inl t_cells))] H → va_D A0 [(q_t, .inr (3, [.ref q_t_cells, .int t_size])), (q_t_cells, .inl (G.2 0, 49, .inl t_cells))] → va_S A0 H0 H locs → W p l e ({ frames := 3, cells := 0, slots := 0, locals := 66 } : Room) s m args below meth c H locs 0 0 Q (F0 m pc ls [.int r])) : ∀ (H : Heap) (locs : List Loc) (ls : Array Slot), va_P G.1 vwCl [(q_t, .inr (3, [.ref q_t_cells, .int t_size])), (q_t_cells, .inl (G.2 0, 49, .inl t_cells))] H → va_D A0 [(q_t, .inr (3, [.ref q_t_cells, .int t_size])), (q_t_cells, .inl (G.2 0, 49, .inl t_cells))] → va_S A0 H0 H locs → lv_has ls 3 [(0, .ref q_t)] → W p l e ({ frames := 3, cells := 0, slots := 0, locals := 66 } : Room) s m args below meth c H locs 0 0 Q (F0 m 0 ls []) := by
  obtain ⟨hx, hb, hml, hown, hts⟩ := C
  intro H locs ls hP hD hS hl
  rw [f_X4_countNotZero] at h
  refine lv_iconst (v := 0) hx hb dX4_countNotZero_0 (by decide) ?_
  refine lv_istore_n (lv' := [(1, .int (0 : Int32)), (0, .ref q_t)]) hx hb dX4_countNotZero_1 rfl hl (by decide) rfl (fun ls hl => ?_)
  refine lv_iconst (v := 0) hx hb dX4_countNotZero_2 (by decide) ?_
  refine lv_istore_n (lv' := [(2, .int (0 : Int32)), (1, .int (0 : Int32)), (0, .ref q_t)]) hx hb dX4_countNotZero_3 rfl hl (by decide) rfl (fun ls hl => ?_)
  obtain ⟨x1_8, hz_10, h⟩ := bd_ok h
  refine l_X4_countNotZero_1 ⟨hx, hb, hml, hown, hts⟩ G hK hA q_t q_t_cells t_size t_cells x1_8 ?_ FU (0 : Int32) (0 : Int32) hz_10 H locs ls hP hD hS (lv_sub hl [2, 1, 0] rfl)
  intro H locs ls hP hD hS hl
  refine lv_iload_n hx hb dX4_countNotZero_29 rfl (lv_at hl 0 rfl) ?_
  obtain rfl := sm1 h
  exact KR H locs ls 30 dX4_countNotZero_30 hP hD hS
set_option maxHeartbeats 4000000 in
set_option maxRecDepth 100000 in
theorem c_X4_countNotZero (l : Launch) (G : GT) (q_t q_t_cells : Nat) (sz : Nat) (t_size : Int32) (t_cells : Nat → Int32) (r : Int32) (h : f_X4_countNotZero t_size t_cells = some r) : Met l yX4_countNotZero wsX4_countNotZero ({ frames := 3, cells := 0, slots := 0, locals := 66 } : Room) (va_Pc [.ref q_t] (pcW G [(q_t, .inr (3, [.ref q_t_cells, .int t_size])), (q_t_cells, .inl (G.2 0, 49, .inl t_cells))] sz)) (va_Qi (fun r9 (_ : Unit) => r9 = r) (fun _ t => atW G (va_A [(q_t, .inr (3, [.ref q_t_cells, .int t_size])), (q_t_cells, .inl (G.2 0, 49, .inl t_cells))] sz) [(q_t, .inr (3, [.ref q_t_cells, .int t_size])), (q_t_cells, .inl (G.2 0, 49, .inl t_cells))] t) (va_A [(q_t, .inr (3, [.ref q_t_cells, .int t_size])), (q_t_cells, .inl (G.2 0, 49, .inl t_cells))] sz)) 0 0 (va_A [(q_t, .inr (3, [.ref q_t_cells, .int t_size])), (q_t_cells, .inl (G.2 0, 49, .inl t_cells))] sz) := by
  refine Met.ofW (cc := cX4_countNotZero) (maxL := 3) (ret := (some .int)) (by decide) rfl ?_
  intro p e s m args below meth c s₁ B hml hv
  obtain ⟨rfl, hsz, hP, hK, hD0⟩ := hv
  subst hsz
  have hD := hD0.self (sz := s.heap.size)
  generalize hAe : va_A [(q_t, .inr (3, [.ref q_t_cells, .int t_size])), (q_t_cells, .inl (G.2 0, 49, .inl t_cells))] s.heap.size = A at hD ⊢
  have hA : ∀ q : Nat, s.heap.size ≤ q → A q := fun q h => by rw [← hAe]; exact Or.inr h
  have hl := lv_entry ([.ref q_t]) (n := 3) (Nat.le_of_ble_eq_true rfl)
  rw [lg_entry_eq]
  refine k_X4_countNotZero ⟨B.exec, B.bytes, hml, findClass_of_methodNamed B.named, atoms_spec (ws := wsX4_countNotZero) B.pre⟩ G hK hA q_t q_t_cells _ _ _ h ?_ _ _ _ hP hD va_S.rf hl
  intro H locs ls pc hd hP hD hS
  exact W.iret B.exec B.bytes B.returns (fun t ht hW => ⟨⟨r, (), rfl, rfl, by rw [ht]; exact hP, hD⟩, hS.F ht⟩) hS.2.2 hd B.notSynchronized
set_option maxRecDepth 20000 in
theorem wd_X4_columnsOf_1 : Cond.fieldLink RX4 15 "PermanentDesk$Matrix" "size" "I" ∈ wsX4_columnsOf := List.mem_of_getElem? (i := 1) (by decide +kernel)
set_option maxRecDepth 20000 in
theorem wi_X4_columnsOf_X4 : ∀ w ∈ u_ws RX4 TX4 2, w ∈ wsX4_columnsOf := by decide +kernel
def f_X4_columnsOf_L1 (x1 : Int32) (t_size : Int32) (t_cells : Nat → Int32) : (Int32 × Int32) → Option ((Int32 × Int32) ⊕ Int32)
  | (x2, x3) =>
    if t_size ≤ x3 then
      some (.inr x2)
    else
      if (x1 &&& ((1 : Int32) <<< (x3 &&& 31))) = 0 then
        pl ((x3 + (1 : Int32)) : Int32) (fun x3_3 =>
        some (.inl (x2, x3_3)))
      else
        (f_X4_columnsOfRow t_size t_cells x3).bind (fun r_4 =>
        pl ((x2 ||| r_4) : Int32) (fun x2_6 =>
        pl ((x3 + (1 : Int32)) : Int32) (fun x3_7 =>
        some (.inl (x2_6, x3_7)))))
def f_X4_columnsOf (t_size : Int32) (t_cells : Nat → Int32) (a1 : Int32) : Option Int32 :=
  (lpN (f_X4_columnsOf_L1 a1 t_size t_cells) FU ((0 : Int32), (0 : Int32))).bind (fun x2_8 =>
  some x2_8)
set_option maxHeartbeats 4000000 in
set_option maxRecDepth 100000 in
theorem l_X4_columnsOf_1 {p : Program} {l : Launch} {e : Env} {s : State} {m : MethodId} {args : Array Value} {below : List Frame} {meth : Method} {c : Code} {Q : State → Prop} {A0 : Nat → Prop} {H0 : Heap} (C : CallFix p m c cX4_columnsOf 4 s args wsX4_columnsOf RX4) (G : GT) (hK : gK G s) (hA : ∀ q : Nat, H0.size ≤ q → A0 q) (q_t q_t_cells : Nat) (x1 : Int32) (t_size : Int32) (t_cells : Nat → Int32) (E_x2 : Int32) (K : ∀ (H : Heap) (locs : List Loc) (ls : Array Slot), va_P G.1 vwCl [(q_t, .inr (3, [.ref q_t_cells, .int t_size])), (q_t_cells, .inl (G.2 0, 49, .inl t_cells))] H → va_D A0 [(q_t, .inr (3, [.ref q_t_cells, .int t_size])), (q_t_cells, .inl (G.2 0, 49, .inl t_cells))] → va_S A0 H0 H locs → lv_has ls 4 [(2, .int E_x2)] → W p l e ({ frames := 3, cells := 0, slots := 0, locals := 66 } : Room) s m args below meth c H locs 0 0 Q (F0 m 34 ls [])) : ∀ (n : Nat) (x2 : Int32) (x3 : Int32), lpN (f_X4_columnsOf_L1 x1 t_size t_cells) n (x2, x3) = some E_x2 → ∀ (H : Heap) (locs : List Loc) (ls : Array Slot), va_P G.1 vwCl [(q_t, .inr (3, [.ref q_t_cells, .int t_size])), (q_t_cells, .inl (G.2 0, 49, .inl t_cells))] H → va_D A0 [(q_t, .inr (3, [.ref q_t_cells, .int t_size])), (q_t_cells, .inl (G.2 0, 49, .inl t_cells))] → va_S A0 H0 H locs → lv_has ls 4 [(0, .ref q_t), (1, .int x1), (2, .int x2), (3, .int x3)] → W p l e ({ frames := 3, cells := 0, slots := 0, locals := 66 } : Room) s m args below meth c H locs 0 0 Q (F0 m 4 ls []) := by
  obtain ⟨hx, hb, hml, hown, hts⟩ := C
  intro n
  induction n with
  | zero => intro x2 x3 h; exact absurd h (fun h => lp_0 h)
  | succ n ih =>
    intro x2 x3 h H locs ls hP hD hS hl
    obtain ⟨y, h, hk⟩ := lp_s h
    rw [f_X4_columnsOf_L1] at h
    refine lv_iload_n hx hb dX4_columnsOf_4 rfl (lv_at hl 3 rfl) ?_
    refine lv_aload_n hx hb dX4_columnsOf_5 rfl (lv_at hl 0 rfl) ?_
    refine va_get (D := G.1) (ci := 3) (v := .int t_size) (C := RX4) (T := TX4) (N := 2) hx hb hts wi_X4_columnsOf_X4 hown hK hP 0 rfl rfl 1 (by decide) (hts _ wd_X4_columnsOf_1) (fun _ h9 => h9) rfl dX4_columnsOf_6 ?_
    refine lv_icmp_ge (tgt := 34) hx hb dX4_columnsOf_9 (by decide) (fun c_1 => ?_) (fun c_1 => ?_)
    · replace h := it_t h c_1
      obtain rfl := sm1 h
      obtain rfl := sm1 hk
      exact K H locs ls hP hD hS (lv_sub hl [2] rfl)
    · replace h := it_f h c_1
      refine lv_iload_n hx hb dX4_columnsOf_12 rfl (lv_at hl 1 rfl) ?_
      refine lv_iconst (v := 1) hx hb dX4_columnsOf_13 (by decide) ?_
      refine lv_iload_n hx hb dX4_columnsOf_14 rfl (lv_at hl 3 rfl) ?_
      refine lv_ishl hx hb dX4_columnsOf_15 ?_
      refine lv_iand hx hb dX4_columnsOf_16 ?_
      refine lv_if_eq (tgt := 28) hx hb dX4_columnsOf_17 (by decide) (fun c_2 => ?_) (fun c_2 => ?_)
      · replace h := it_t h c_2
        obtain ⟨x3_3, ex3_3, h⟩ := pl_ok h
        refine lv_iinc (v := x3_3) (lv' := [(3, .int x3_3), (0, .ref q_t), (1, .int x1), (2, .int x2)]) hx hb dX4_columnsOf_28 hl (k := 3) rfl (by rw [ex3_3]; rfl) (by decide) rfl (fun ls hl => ?_)
        refine lv_goto (tgt := 4) hx hb dX4_columnsOf_31 (by decide) ?_
        obtain rfl := sm1 h
        exact ih x2 x3_3 hk H locs ls hP hD hS (lv_sub hl [1, 2, 3, 0] rfl)
      · replace h := it_f h c_2
        refine lv_iload_n hx hb dX4_columnsOf_20 rfl (lv_at hl 2 rfl) ?_
        refine lv_aload_n hx hb dX4_columnsOf_21 rfl (lv_at hl 0 rfl) ?_
        refine lv_iload_n hx hb dX4_columnsOf_22 rfl (lv_at hl 3 rfl) ?_
        obtain ⟨r_4, hf_5, h⟩ := bd_ok h
        refine ck_Vi (rest := [.int x2]) (wn := [(q_t, .inr (3, [.ref q_t_cells, .int t_size])), (q_t_cells, .inl (G.2 0, 49, .inl t_cells))]) ⟨hx, hb, hml, hown, hts⟩ hK hP hD hS hA [0, 1] [] [0, 1] (c_X4_columnsOfRow l G q_t q_t_cells _ t_size t_cells x3 _ hf_5) (cwV 1 hts gX4_columnsOf_X4_columnsOfRow rfl rfl rfl (by decide +kernel) ⟨Nat.le_of_ble_eq_true rfl, Nat.le_of_ble_eq_true rfl⟩) rfl rfl rfl rfl rfl rfl (by decide) rfl rfl rfl hl.1 rfl (Nat.le_of_ble_eq_true rfl) dX4_columnsOf_23 ⟨Nat.zero_le _, Nat.zero_le _⟩ (fun H locs hP hD hS => ?_)
        refine lv_ior hx hb dX4_columnsOf_26 ?_
        refine lv_topi (fun x2_6 ex2_6 => ?_)
        replace h := pl_v h ex2_6
        refine lv_istore_n (lv' := [(2, .int x2_6), (0, .ref q_t), (1, .int x1), (3, .int x3)]) hx hb dX4_columnsOf_27 rfl hl (by decide) rfl (fun ls hl => ?_)
        obtain ⟨x3_7, ex3_7, h⟩ := pl_ok h
        refine lv_iinc (v := x3_7) (lv' := [(3, .int x3_7), (2, .int x2_6), (0, .ref q_t), (1, .int x1)]) hx hb dX4_columnsOf_28 hl (k := 3) rfl (by rw [ex3_7]; rfl) (by decide) rfl (fun ls hl => ?_)
        refine lv_goto (tgt := 4) hx hb dX4_columnsOf_31 (by decide) ?_
        obtain rfl := sm1 h
        exact ih x2_6 x3_7 hk H locs ls hP hD hS (lv_sub hl [2, 3, 1, 0] rfl)
set_option maxHeartbeats 4000000 in
set_option maxRecDepth 100000 in
theorem k_X4_columnsOf {p : Program} {l : Launch} {e : Env} {s : State} {m : MethodId} {args : Array Value} {below : List Frame} {meth : Method} {c : Code} {Q : State → Prop} {A0 : Nat → Prop} {H0 : Heap} (C : CallFix p m c cX4_columnsOf 4 s args wsX4_columnsOf RX4) (G : GT) (hK : gK G s) (hA : ∀ q : Nat, H0.size ≤ q → A0 q) (q_t q_t_cells : Nat) (t_size : Int32) (t_cells : Nat → Int32) (a1 : Int32) (r : Int32) (h : f_X4_columnsOf t_size t_cells a1 = some r) (KR : ∀ (H : Heap) (locs : List Loc) (ls : Array Slot) (pc : Nat), decode cX4_columnsOf pc = .ok (.ireturn, 1) → va_P G.1 vwCl [(q_t, .inr (3, [.ref q_t_cells, .int t_size])), (q_t_cells, .inl (G.2 0, 49, .inl t_cells))] H → va_D A0 [(q_t, .inr (3, [.ref q_t_cells, .int t_size])), (q_t_cells, .inl (G.2 0, 49, .inl t_cells))] → va_S A0 H0 H locs → W p l e ({ frames := 3, cells := 0, slots := 0, locals := 66 } : Room) s m args below meth c H locs 0 0 Q (F0 m pc ls [.int r])) : ∀ (H : Heap) (locs : List Loc) (ls : Array Slot), va_P G.1 vwCl [(q_t, .inr (3, [.ref q_t_cells, .int t_size])), (q_t_cells, .inl (G.2 0, 49, .inl t_cells))] H → va_D A0 [(q_t, .inr (3, [.ref q_t_cells, .int t_size])), (q_t_cells, .inl (G.2 0, 49, .inl t_cells))] → va_S A0 H0 H locs → lv_has ls 4 [(0, .ref q_t), (1, .int a1)] → W p l e ({ frames := 3, cells := 0, slots := 0, locals := 66 } : Room) s m args below meth c H locs 0 0 Q (F0 m 0 ls []) := by
  obtain ⟨hx, hb, hml, hown, hts⟩ := C
  intro H locs ls hP hD hS hl
  rw [f_X4_columnsOf] at h
  refine lv_iconst (v := 0) hx hb dX4_columnsOf_0 (by decide) ?_
  refine lv_istore_n (lv' := [(2, .int (0 : Int32)), (0, .ref q_t), (1, .int a1)]) hx hb dX4_columnsOf_1 rfl hl (by decide) rfl (fun ls hl => ?_)
  refine lv_iconst (v := 0) hx hb dX4_columnsOf_2 (by decide) ?_
  refine lv_istore_n (lv' := [(3, .int (0 : Int32)), (2, .int (0 : Int32)), (0, .ref q_t), (1, .int a1)]) hx hb dX4_columnsOf_3 rfl hl (by decide) rfl (fun ls hl => ?_)
  obtain ⟨x2_8, hz_10, h⟩ := bd_ok h
  refine l_X4_columnsOf_1 ⟨hx, hb, hml, hown, hts⟩ G hK hA q_t q_t_cells a1 t_size t_cells x2_8 ?_ FU (0 : Int32) (0 : Int32) hz_10 H locs ls hP hD hS (lv_sub hl [2, 3, 1, 0] rfl)
  intro H locs ls hP hD hS hl
  refine lv_iload_n hx hb dX4_columnsOf_34 rfl (lv_at hl 0 rfl) ?_
  obtain rfl := sm1 h
  exact KR H locs ls 35 dX4_columnsOf_35 hP hD hS
set_option maxHeartbeats 4000000 in
set_option maxRecDepth 100000 in
theorem c_X4_columnsOf (l : Launch) (G : GT) (q_t q_t_cells : Nat) (sz : Nat) (t_size : Int32) (t_cells : Nat → Int32) (a1 : Int32) (r : Int32) (h : f_X4_columnsOf t_size t_cells a1 = some r) : Met l yX4_columnsOf wsX4_columnsOf ({ frames := 3, cells := 0, slots := 0, locals := 66 } : Room) (va_Pc [.ref q_t, .int a1] (pcW G [(q_t, .inr (3, [.ref q_t_cells, .int t_size])), (q_t_cells, .inl (G.2 0, 49, .inl t_cells))] sz)) (va_Qi (fun r9 (_ : Unit) => r9 = r) (fun _ t => atW G (va_A [(q_t, .inr (3, [.ref q_t_cells, .int t_size])), (q_t_cells, .inl (G.2 0, 49, .inl t_cells))] sz) [(q_t, .inr (3, [.ref q_t_cells, .int t_size])), (q_t_cells, .inl (G.2 0, 49, .inl t_cells))] t) (va_A [(q_t, .inr (3, [.ref q_t_cells, .int t_size])), (q_t_cells, .inl (G.2 0, 49, .inl t_cells))] sz)) 0 0 (va_A [(q_t, .inr (3, [.ref q_t_cells, .int t_size])), (q_t_cells, .inl (G.2 0, 49, .inl t_cells))] sz) := by
  refine Met.ofW (cc := cX4_columnsOf) (maxL := 4) (ret := (some .int)) (by decide) rfl ?_
  intro p e s m args below meth c s₁ B hml hv
  obtain ⟨rfl, hsz, hP, hK, hD0⟩ := hv
  subst hsz
  have hD := hD0.self (sz := s.heap.size)
  generalize hAe : va_A [(q_t, .inr (3, [.ref q_t_cells, .int t_size])), (q_t_cells, .inl (G.2 0, 49, .inl t_cells))] s.heap.size = A at hD ⊢
  have hA : ∀ q : Nat, s.heap.size ≤ q → A q := fun q h => by rw [← hAe]; exact Or.inr h
  have hl := lv_entry ([.ref q_t, .int a1]) (n := 4) (Nat.le_of_ble_eq_true rfl)
  rw [lg_entry_eq]
  refine k_X4_columnsOf ⟨B.exec, B.bytes, hml, findClass_of_methodNamed B.named, atoms_spec (ws := wsX4_columnsOf) B.pre⟩ G hK hA q_t q_t_cells _ _ _ _ h ?_ _ _ _ hP hD va_S.rf hl
  intro H locs ls pc hd hP hD hS
  exact W.iret B.exec B.bytes B.returns (fun t ht hW => ⟨⟨r, (), rfl, rfl, by rw [ht]; exact hP, hD⟩, hS.F ht⟩) hS.2.2 hd B.notSynchronized
