set_option maxRecDepth 20000 in
theorem wd_X6_count_1 : Cond.fieldLink RX6 32 "PermanentDesk$TakingApart" "count" "I" ∈ wsX6_count := List.mem_of_getElem? (i := 1) (by decide +kernel)
set_option maxRecDepth 20000 in
theorem wi_X6_count_X6 : ∀ w ∈ u_ws RX6 TX6 5, w ∈ wsX6_count := by decide +kernel
def f_X6_count (t_count : Int32) : Option Int32 :=
  some t_count
set_option maxHeartbeats 4000000 in
set_option maxRecDepth 100000 in
theorem k_X6_count {p : Program} {l : Launch} {e : Env} {s : State} {m : MethodId} {args : Array Value} {below : List Frame} {meth : Method} {c : Code} {Q : State → Prop} {A0 : Nat → Prop} {H0 : Heap} (C : CallFix p m c cX6_count 1 s args wsX6_count RX6) (G : GT) (hK : gK G s) (hA : ∀ q : Nat, H0.size ≤ q → A0 q) (q_t q_t_left q_t_endings q_t_diagonals q_t_weights : Nat) (t_count : Int32) (r : Int32) (h : f_X6_count t_count = some r) (KR : ∀ (H : Heap) (locs : List Loc) (ls : Array Slot) (pc : Nat), decode cX6_count pc = .ok (.ireturn, 1) → va_P G.1 vwCl [(q_t, .inr (5, [.ref q_t_left, .ref q_t_endings, .ref q_t_diagonals, .ref q_t_weights, .int t_count]))] H → va_D A0 [(q_t, .inr (5, [.ref q_t_left, .ref q_t_endings, .ref q_t_diagonals, .ref q_t_weights, .int t_count]))] → va_S A0 H0 H locs → W p l e ({ frames := 0, cells := 0, slots := 0, locals := 0 } : Room) s m args below meth c H locs 0 0 Q (F0 m pc ls [.int r])) : ∀ (H : Heap) (locs : List Loc) (ls : Array Slot), va_P G.1 vwCl [(q_t, .inr (5, [.ref q_t_left, .ref q_t_endings, .ref q_t_diagonals, .ref q_t_weights, .int t_count]))] H → va_D A0 [(q_t, .inr (5, [.ref q_t_left, .ref q_t_endings, .ref q_t_diagonals, .ref q_t_weights, .int t_count]))] → va_S A0 H0 H locs → lv_has ls 1 [(0, .ref q_t)] → W p l e ({ frames := 0, cells := 0, slots := 0, locals := 0 } : Room) s m args below meth c H locs 0 0 Q (F0 m 0 ls []) := by
  obtain ⟨hx, hb, hml, hown, hts⟩ := C
  intro H locs ls hP hD hS hl
  rw [f_X6_count] at h
  refine lv_aload_n hx hb dX6_count_0 rfl (lv_at hl 0 rfl) ?_
  refine va_get (D := G.1) (ci := 5) (v := .int t_count) (C := RX6) (T := TX6) (N := 5) hx hb hts wi_X6_count_X6 hown hK hP 0 rfl rfl 4 (by decide) (hts _ wd_X6_count_1) (fun _ h9 => h9) rfl dX6_count_1 ?_
  obtain rfl := sm1 h
  exact KR H locs ls 4 dX6_count_4 hP hD hS
set_option maxHeartbeats 4000000 in
set_option maxRecDepth 100000 in
theorem c_X6_count (l : Launch) (G : GT) (q_t q_t_left q_t_endings q_t_diagonals q_t_weights : Nat) (sz : Nat) (t_count : Int32) (r : Int32) (h : f_X6_count t_count = some r) : Met l yX6_count wsX6_count ({ frames := 0, cells := 0, slots := 0, locals := 0 } : Room) (va_Pc [.ref q_t] (pcW G [(q_t, .inr (5, [.ref q_t_left, .ref q_t_endings, .ref q_t_diagonals, .ref q_t_weights, .int t_count]))] sz)) (va_Qi (fun r9 (_ : Unit) => r9 = r) (fun _ t => atW G (va_A [(q_t, .inr (5, [.ref q_t_left, .ref q_t_endings, .ref q_t_diagonals, .ref q_t_weights, .int t_count]))] sz) [(q_t, .inr (5, [.ref q_t_left, .ref q_t_endings, .ref q_t_diagonals, .ref q_t_weights, .int t_count]))] t) (va_A [(q_t, .inr (5, [.ref q_t_left, .ref q_t_endings, .ref q_t_diagonals, .ref q_t_weights, .int t_count]))] sz)) 0 0 (va_A [(q_t, .inr (5, [.ref q_t_left, .ref q_t_endings, .ref q_t_diagonals, .ref q_t_weights, .int t_count]))] sz) := by
  refine Met.ofW (cc := cX6_count) (maxL := 1) (ret := (some .int)) (by decide) rfl ?_
  intro p e s m args below meth c s₁ B hml hv
  obtain ⟨rfl, hsz, hP, hK, hD0⟩ := hv
  subst hsz
  have hD := hD0.self (sz := s.heap.size)
  generalize hAe : va_A [(q_t, .inr (5, [.ref q_t_left, .ref q_t_endings, .ref q_t_diagonals, .ref q_t_weights, .int t_count]))] s.heap.size = A at hD ⊢
  have hA : ∀ q : Nat, s.heap.size ≤ q → A q := fun q h => by rw [← hAe]; exact Or.inr h
  have hl := lv_entry ([.ref q_t]) (n := 1) (Nat.le_of_ble_eq_true rfl)
  rw [lg_entry_eq]
  refine k_X6_count ⟨B.exec, B.bytes, hml, findClass_of_methodNamed B.named, atoms_spec (ws := wsX6_count) B.pre⟩ G hK hA q_t q_t_left q_t_endings q_t_diagonals q_t_weights _ _ h ?_ _ _ _ hP hD va_S.rf hl
  intro H locs ls pc hd hP hD hS
  exact W.iret B.exec B.bytes B.returns (fun t ht hW => ⟨⟨r, (), rfl, rfl, by rw [ht]; exact hP, hD⟩, hS.F ht⟩) hS.2.2 hd B.notSynchronized
set_option maxRecDepth 20000 in
theorem wd_X6_diagonal_1 : Cond.fieldLink RX6 32 "PermanentDesk$TakingApart" "count" "I" ∈ wsX6_diagonal := List.mem_of_getElem? (i := 1) (by decide +kernel)
set_option maxRecDepth 20000 in
theorem wi_X6_diagonal_X6 : ∀ w ∈ u_ws RX6 TX6 5, w ∈ wsX6_diagonal := by decide +kernel
set_option maxRecDepth 20000 in
theorem wd_X6_diagonal_2 : Cond.fieldLink RX6 25 "PermanentDesk$TakingApart" "diagonals" "[I" ∈ wsX6_diagonal := List.mem_of_getElem? (i := 2) (by decide +kernel)
def f_X6_diagonal (t_count : Int32) (t_diagonals : Nat → Int32) (a1 : Int32) : Option Int32 :=
  if a1 < 0 then
    some (0 : Int32)
  else
    if t_count ≤ a1 then
      some (0 : Int32)
    else
      if (49 : Int32) ≤ a1 then
        some (0 : Int32)
      else
        gd (okI a1 49) (
        some (t_diagonals a1.toNatClampNeg))
set_option maxHeartbeats 4000000 in
set_option maxRecDepth 100000 in
theorem k_X6_diagonal {p : Program} {l : Launch} {e : Env} {s : State} {m : MethodId} {args : Array Value} {below : List Frame} {meth : Method} {c : Code} {Q : State → Prop} {A0 : Nat → Prop} {H0 : Heap} (C : CallFix p m c cX6_diagonal 2 s args wsX6_diagonal RX6) (G : GT) (hK : gK G s) (hA : ∀ q : Nat, H0.size ≤ q → A0 q) (q_t q_t_left q_t_endings q_t_diagonals q_t_weights : Nat) (t_count : Int32) (t_diagonals : Nat → Int32) (a1 : Int32) (r : Int32) (h : f_X6_diagonal t_count t_diagonals a1 = some r) (KR : ∀ (H : Heap) (locs : List Loc) (ls : Array Slot) (pc : Nat), decode cX6_diagonal pc = .ok (.ireturn, 1) → va_P G.1 vwCl [(q_t, .inr (5, [.ref q_t_left, .ref q_t_endings, .ref q_t_diagonals, .ref q_t_weights, .int t_count])), (q_t_diagonals, .inl (G.2 0, 49, .inl t_diagonals))] H → va_D A0 [(q_t, .inr (5, [.ref q_t_left, .ref q_t_endings, .ref q_t_diagonals, .ref q_t_weights, .int t_count])), (q_t_diagonals, .inl (G.2 0, 49, .inl t_diagonals))] → va_S A0 H0 H locs → W p l e ({ frames := 0, cells := 0, slots := 0, locals := 0 } : Room) s m args below meth c H locs 0 0 Q (F0 m pc ls [.int r])) : ∀ (H : Heap) (locs : List Loc) (ls : Array Slot), va_P G.1 vwCl [(q_t, .inr (5, [.ref q_t_left, .ref q_t_endings, .ref q_t_diagonals, .ref q_t_weights, .int t_count])), (q_t_diagonals, .inl (G.2 0, 49, .inl t_diagonals))] H → va_D A0 [(q_t, .inr (5, [.ref q_t_left, .ref q_t_endings, .ref q_t_diagonals, .ref q_t_weights, .int t_count])), (q_t_diagonals, .inl (G.2 0, 49, .inl t_diagonals))] → va_S A0 H0 H locs → lv_has ls 2 [(0, .ref q_t), (1, .int a1)] → W p l e ({ frames := 0, cells := 0, slots := 0, locals := 0 } : Room) s m args below meth c H locs 0 0 Q (F0 m 0 ls []) := by
  obtain ⟨hx, hb, hml, hown, hts⟩ := C
  intro H locs ls hP hD hS hl
  rw [f_X6_diagonal] at h
  refine lv_iload_n hx hb dX6_diagonal_0 rfl (lv_at hl 1 rfl) ?_
  refine lv_if_lt (tgt := 27) hx hb dX6_diagonal_1 (by decide) (fun c_1 => ?_) (fun c_1 => ?_)
  · replace h := it_t h c_1
    refine lv_iconst (v := 0) hx hb dX6_diagonal_27 (by decide) ?_
    obtain rfl := sm1 h
    exact KR H locs ls 28 dX6_diagonal_28 hP hD hS
  · replace h := it_f h c_1
    refine lv_iload_n hx hb dX6_diagonal_4 rfl (lv_at hl 1 rfl) ?_
    refine lv_aload_n hx hb dX6_diagonal_5 rfl (lv_at hl 0 rfl) ?_
    refine va_get (D := G.1) (ci := 5) (v := .int t_count) (C := RX6) (T := TX6) (N := 5) hx hb hts wi_X6_diagonal_X6 hown hK hP 0 rfl rfl 4 (by decide) (hts _ wd_X6_diagonal_1) (fun _ h9 => h9) rfl dX6_diagonal_6 ?_
    refine lv_icmp_ge (tgt := 27) hx hb dX6_diagonal_9 (by decide) (fun c_2 => ?_) (fun c_2 => ?_)
    · replace h := it_t h c_2
      refine lv_iconst (v := 0) hx hb dX6_diagonal_27 (by decide) ?_
      obtain rfl := sm1 h
      exact KR H locs ls 28 dX6_diagonal_28 hP hD hS
    · replace h := it_f h c_2
      refine lv_iload_n hx hb dX6_diagonal_12 rfl (lv_at hl 1 rfl) ?_
      refine lv_bipush (v := 49) hx hb dX6_diagonal_13 (by decide) ?_
      refine lv_icmp_ge (tgt := 27) hx hb dX6_diagonal_15 (by decide) (fun c_3 => ?_) (fun c_3 => ?_)
      · replace h := it_t h c_3
        refine lv_iconst (v := 0) hx hb dX6_diagonal_27 (by decide) ?_
        obtain rfl := sm1 h
        exact KR H locs ls 28 dX6_diagonal_28 hP hD hS
      · replace h := it_f h c_3
        refine lv_aload_n hx hb dX6_diagonal_18 rfl (lv_at hl 0 rfl) ?_
        refine va_get (D := G.1) (ci := 5) (v := .ref q_t_diagonals) (C := RX6) (T := TX6) (N := 5) hx hb hts wi_X6_diagonal_X6 hown hK hP 0 rfl rfl 2 (by decide) (hts _ wd_X6_diagonal_2) (fun _ h9 => h9) rfl dX6_diagonal_19 ?_
        refine lv_iload_n hx hb dX6_diagonal_22 rfl (lv_at hl 1 rfl) ?_
        obtain ⟨g_4, h⟩ := gd_ok h
        refine va_iald (D := G.1) hx hb hK hP 1 0 rfl rfl g_4 dX6_diagonal_23 ?_
        refine lv_goto (tgt := 28) hx hb dX6_diagonal_24 (by decide) ?_
        obtain rfl := sm1 h
        exact KR H locs ls 28 dX6_diagonal_28 hP hD hS
set_option maxHeartbeats 4000000 in
set_option maxRecDepth 100000 in
theorem c_X6_diagonal (l : Launch) (G : GT) (q_t q_t_left q_t_endings q_t_diagonals q_t_weights : Nat) (sz : Nat) (t_count : Int32) (t_diagonals : Nat → Int32) (a1 : Int32) (r : Int32) (h : f_X6_diagonal t_count t_diagonals a1 = some r) : Met l yX6_diagonal wsX6_diagonal ({ frames := 0, cells := 0, slots := 0, locals := 0 } : Room) (va_Pc [.ref q_t, .int a1] (pcW G [(q_t, .inr (5, [.ref q_t_left, .ref q_t_endings, .ref q_t_diagonals, .ref q_t_weights, .int t_count])), (q_t_diagonals, .inl (G.2 0, 49, .inl t_diagonals))] sz)) (va_Qi (fun r9 (_ : Unit) => r9 = r) (fun _ t => atW G (va_A [(q_t, .inr (5, [.ref q_t_left, .ref q_t_endings, .ref q_t_diagonals, .ref q_t_weights, .int t_count])), (q_t_diagonals, .inl (G.2 0, 49, .inl t_diagonals))] sz) [(q_t, .inr (5, [.ref q_t_left, .ref q_t_endings, .ref q_t_diagonals, .ref q_t_weights, .int t_count])), (q_t_diagonals, .inl (G.2 0, 49, .inl t_diagonals))] t) (va_A [(q_t, .inr (5, [.ref q_t_left, .ref q_t_endings, .ref q_t_diagonals, .ref q_t_weights, .int t_count])), (q_t_diagonals, .inl (G.2 0, 49, .inl t_diagonals))] sz)) 0 0 (va_A [(q_t, .inr (5, [.ref q_t_left, .ref q_t_endings, .ref q_t_diagonals, .ref q_t_weights, .int t_count])), (q_t_diagonals, .inl (G.2 0, 49, .inl t_diagonals))] sz) := by
  refine Met.ofW (cc := cX6_diagonal) (maxL := 2) (ret := (some .int)) (by decide) rfl ?_
  intro p e s m args below meth c s₁ B hml hv
  obtain ⟨rfl, hsz, hP, hK, hD0⟩ := hv
  subst hsz
  have hD := hD0.self (sz := s.heap.size)
  generalize hAe : va_A [(q_t, .inr (5, [.ref q_t_left, .ref q_t_endings, .ref q_t_diagonals, .ref q_t_weights, .int t_count])), (q_t_diagonals, .inl (G.2 0, 49, .inl t_diagonals))] s.heap.size = A at hD ⊢
  have hA : ∀ q : Nat, s.heap.size ≤ q → A q := fun q h => by rw [← hAe]; exact Or.inr h
  have hl := lv_entry ([.ref q_t, .int a1]) (n := 2) (Nat.le_of_ble_eq_true rfl)
  rw [lg_entry_eq]
  refine k_X6_diagonal ⟨B.exec, B.bytes, hml, findClass_of_methodNamed B.named, atoms_spec (ws := wsX6_diagonal) B.pre⟩ G hK hA q_t q_t_left q_t_endings q_t_diagonals q_t_weights _ _ _ _ h ?_ _ _ _ hP hD va_S.rf hl
  intro H locs ls pc hd hP hD hS
  exact W.iret B.exec B.bytes B.returns (fun t ht hW => ⟨⟨r, (), rfl, rfl, by rw [ht]; exact hP, hD⟩, hS.F ht⟩) hS.2.2 hd B.notSynchronized
set_option maxRecDepth 20000 in
theorem wd_X6_weight_1 : Cond.fieldLink RX6 32 "PermanentDesk$TakingApart" "count" "I" ∈ wsX6_weight := List.mem_of_getElem? (i := 1) (by decide +kernel)
set_option maxRecDepth 20000 in
theorem wi_X6_weight_X6 : ∀ w ∈ u_ws RX6 TX6 5, w ∈ wsX6_weight := by decide +kernel
set_option maxRecDepth 20000 in
theorem wd_X6_weight_2 : Cond.fieldLink RX6 29 "PermanentDesk$TakingApart" "weights" "[I" ∈ wsX6_weight := List.mem_of_getElem? (i := 2) (by decide +kernel)
def f_X6_weight (t_count : Int32) (t_weights : Nat → Int32) (a1 : Int32) : Option Int32 :=
  if a1 < 0 then
    some (0 : Int32)
  else
    if t_count ≤ a1 then
      some (0 : Int32)
    else
      if (49 : Int32) ≤ a1 then
        some (0 : Int32)
      else
        gd (okI a1 49) (
        some (t_weights a1.toNatClampNeg))
set_option maxHeartbeats 4000000 in
set_option maxRecDepth 100000 in
theorem k_X6_weight {p : Program} {l : Launch} {e : Env} {s : State} {m : MethodId} {args : Array Value} {below : List Frame} {meth : Method} {c : Code} {Q : State → Prop} {A0 : Nat → Prop} {H0 : Heap} (C : CallFix p m c cX6_weight 2 s args wsX6_weight RX6) (G : GT) (hK : gK G s) (hA : ∀ q : Nat, H0.size ≤ q → A0 q) (q_t q_t_left q_t_endings q_t_diagonals q_t_weights : Nat) (t_count : Int32) (t_weights : Nat → Int32) (a1 : Int32) (r : Int32) (h : f_X6_weight t_count t_weights a1 = some r) (KR : ∀ (H : Heap) (locs : List Loc) (ls : Array Slot) (pc : Nat), decode cX6_weight pc = .ok (.ireturn, 1) → va_P G.1 vwCl [(q_t, .inr (5, [.ref q_t_left, .ref q_t_endings, .ref q_t_diagonals, .ref q_t_weights, .int t_count])), (q_t_weights, .inl (G.2 0, 49, .inl t_weights))] H → va_D A0 [(q_t, .inr (5, [.ref q_t_left, .ref q_t_endings, .ref q_t_diagonals, .ref q_t_weights, .int t_count])), (q_t_weights, .inl (G.2 0, 49, .inl t_weights))] → va_S A0 H0 H locs → W p l e ({ frames := 0, cells := 0, slots := 0, locals := 0 } : Room) s m args below meth c H locs 0 0 Q (F0 m pc ls [.int r])) : ∀ (H : Heap) (locs : List Loc) (ls : Array Slot), va_P G.1 vwCl [(q_t, .inr (5, [.ref q_t_left, .ref q_t_endings, .ref q_t_diagonals, .ref q_t_weights, .int t_count])), (q_t_weights, .inl (G.2 0, 49, .inl t_weights))] H → va_D A0 [(q_t, .inr (5, [.ref q_t_left, .ref q_t_endings, .ref q_t_diagonals, .ref q_t_weights, .int t_count])), (q_t_weights, .inl (G.2 0, 49, .inl t_weights))] → va_S A0 H0 H locs → lv_has ls 2 [(0, .ref q_t), (1, .int a1)] → W p l e ({ frames := 0, cells := 0, slots := 0, locals := 0 } : Room) s m args below meth c H locs 0 0 Q (F0 m 0 ls []) := by
  obtain ⟨hx, hb, hml, hown, hts⟩ := C
  intro H locs ls hP hD hS hl
  rw [f_X6_weight] at h
  refine lv_iload_n hx hb dX6_weight_0 rfl (lv_at hl 1 rfl) ?_
  refine lv_if_lt (tgt := 27) hx hb dX6_weight_1 (by decide) (fun c_1 => ?_) (fun c_1 => ?_)
  · replace h := it_t h c_1
    refine lv_iconst (v := 0) hx hb dX6_weight_27 (by decide) ?_
    obtain rfl := sm1 h
    exact KR H locs ls 28 dX6_weight_28 hP hD hS
  · replace h := it_f h c_1
    refine lv_iload_n hx hb dX6_weight_4 rfl (lv_at hl 1 rfl) ?_
    refine lv_aload_n hx hb dX6_weight_5 rfl (lv_at hl 0 rfl) ?_
    refine va_get (D := G.1) (ci := 5) (v := .int t_count) (C := RX6) (T := TX6) (N := 5) hx hb hts wi_X6_weight_X6 hown hK hP 0 rfl rfl 4 (by decide) (hts _ wd_X6_weight_1) (fun _ h9 => h9) rfl dX6_weight_6 ?_
    refine lv_icmp_ge (tgt := 27) hx hb dX6_weight_9 (by decide) (fun c_2 => ?_) (fun c_2 => ?_)
    · replace h := it_t h c_2
      refine lv_iconst (v := 0) hx hb dX6_weight_27 (by decide) ?_
      obtain rfl := sm1 h
      exact KR H locs ls 28 dX6_weight_28 hP hD hS
    · replace h := it_f h c_2
      refine lv_iload_n hx hb dX6_weight_12 rfl (lv_at hl 1 rfl) ?_
      refine lv_bipush (v := 49) hx hb dX6_weight_13 (by decide) ?_
      refine lv_icmp_ge (tgt := 27) hx hb dX6_weight_15 (by decide) (fun c_3 => ?_) (fun c_3 => ?_)
      · replace h := it_t h c_3
        refine lv_iconst (v := 0) hx hb dX6_weight_27 (by decide) ?_
        obtain rfl := sm1 h
        exact KR H locs ls 28 dX6_weight_28 hP hD hS
      · replace h := it_f h c_3
        refine lv_aload_n hx hb dX6_weight_18 rfl (lv_at hl 0 rfl) ?_
        refine va_get (D := G.1) (ci := 5) (v := .ref q_t_weights) (C := RX6) (T := TX6) (N := 5) hx hb hts wi_X6_weight_X6 hown hK hP 0 rfl rfl 3 (by decide) (hts _ wd_X6_weight_2) (fun _ h9 => h9) rfl dX6_weight_19 ?_
        refine lv_iload_n hx hb dX6_weight_22 rfl (lv_at hl 1 rfl) ?_
        obtain ⟨g_4, h⟩ := gd_ok h
        refine va_iald (D := G.1) hx hb hK hP 1 0 rfl rfl g_4 dX6_weight_23 ?_
        refine lv_goto (tgt := 28) hx hb dX6_weight_24 (by decide) ?_
        obtain rfl := sm1 h
        exact KR H locs ls 28 dX6_weight_28 hP hD hS
set_option maxHeartbeats 4000000 in
set_option maxRecDepth 100000 in
theorem c_X6_weight (l : Launch) (G : GT) (q_t q_t_left q_t_endings q_t_diagonals q_t_weights : Nat) (sz : Nat) (t_count : Int32) (t_weights : Nat → Int32) (a1 : Int32) (r : Int32) (h : f_X6_weight t_count t_weights a1 = some r) : Met l yX6_weight wsX6_weight ({ frames := 0, cells := 0, slots := 0, locals := 0 } : Room) (va_Pc [.ref q_t, .int a1] (pcW G [(q_t, .inr (5, [.ref q_t_left, .ref q_t_endings, .ref q_t_diagonals, .ref q_t_weights, .int t_count])), (q_t_weights, .inl (G.2 0, 49, .inl t_weights))] sz)) (va_Qi (fun r9 (_ : Unit) => r9 = r) (fun _ t => atW G (va_A [(q_t, .inr (5, [.ref q_t_left, .ref q_t_endings, .ref q_t_diagonals, .ref q_t_weights, .int t_count])), (q_t_weights, .inl (G.2 0, 49, .inl t_weights))] sz) [(q_t, .inr (5, [.ref q_t_left, .ref q_t_endings, .ref q_t_diagonals, .ref q_t_weights, .int t_count])), (q_t_weights, .inl (G.2 0, 49, .inl t_weights))] t) (va_A [(q_t, .inr (5, [.ref q_t_left, .ref q_t_endings, .ref q_t_diagonals, .ref q_t_weights, .int t_count])), (q_t_weights, .inl (G.2 0, 49, .inl t_weights))] sz)) 0 0 (va_A [(q_t, .inr (5, [.ref q_t_left, .ref q_t_endings, .ref q_t_diagonals, .ref q_t_weights, .int t_count])), (q_t_weights, .inl (G.2 0, 49, .inl t_weights))] sz) := by
  refine Met.ofW (cc := cX6_weight) (maxL := 2) (ret := (some .int)) (by decide) rfl ?_
  intro p e s m args below meth c s₁ B hml hv
  obtain ⟨rfl, hsz, hP, hK, hD0⟩ := hv
  subst hsz
  have hD := hD0.self (sz := s.heap.size)
  generalize hAe : va_A [(q_t, .inr (5, [.ref q_t_left, .ref q_t_endings, .ref q_t_diagonals, .ref q_t_weights, .int t_count])), (q_t_weights, .inl (G.2 0, 49, .inl t_weights))] s.heap.size = A at hD ⊢
  have hA : ∀ q : Nat, s.heap.size ≤ q → A q := fun q h => by rw [← hAe]; exact Or.inr h
  have hl := lv_entry ([.ref q_t, .int a1]) (n := 2) (Nat.le_of_ble_eq_true rfl)
  rw [lg_entry_eq]
  refine k_X6_weight ⟨B.exec, B.bytes, hml, findClass_of_methodNamed B.named, atoms_spec (ws := wsX6_weight) B.pre⟩ G hK hA q_t q_t_left q_t_endings q_t_diagonals q_t_weights _ _ _ _ h ?_ _ _ _ hP hD va_S.rf hl
  intro H locs ls pc hd hP hD hS
  exact W.iret B.exec B.bytes B.returns (fun t ht hW => ⟨⟨r, (), rfl, rfl, by rw [ht]; exact hP, hD⟩, hS.F ht⟩) hS.2.2 hd B.notSynchronized
set_option maxRecDepth 20000 in
theorem wd_X6_takeApart_1 : Cond.fieldLink RX6 12 "PermanentDesk$TakingApart" "left" "LPermanentDesk$Matrix;" ∈ wsX6_takeApart := List.mem_of_getElem? (i := 1) (by decide +kernel)
set_option maxRecDepth 20000 in
theorem wi_X6_takeApart_X6 : ∀ w ∈ u_ws RX6 TX6 5, w ∈ wsX6_takeApart := by decide +kernel
set_option maxRecDepth 20000 in
theorem wd_X6_takeApart_2 : Cond.fieldLink RX6 32 "PermanentDesk$TakingApart" "count" "I" ∈ wsX6_takeApart := List.mem_of_getElem? (i := 2) (by decide +kernel)
set_option maxRecDepth 20000 in
theorem wd_X6_takeApart_3 : Cond.fieldLink RX6 21 "PermanentDesk$TakingApart" "endings" "LPermanentDesk$Endings;" ∈ wsX6_takeApart := List.mem_of_getElem? (i := 3) (by decide +kernel)
set_option maxRecDepth 20000 in
theorem wd_X6_takeApart_4 : Cond.fieldLink RX6 25 "PermanentDesk$TakingApart" "diagonals" "[I" ∈ wsX6_takeApart := List.mem_of_getElem? (i := 4) (by decide +kernel)
set_option maxRecDepth 20000 in
theorem wd_X6_takeApart_5 : Cond.fieldLink RX6 29 "PermanentDesk$TakingApart" "weights" "[I" ∈ wsX6_takeApart := List.mem_of_getElem? (i := 5) (by decide +kernel)
def f_X6_takeApart_L1 (t_left_size : Int32) : (Int32 × Int32 × (Nat → Int32) × (Nat → Int32) × (Nat → Int32) × (Nat → Int32)) → Option ((Int32 × Int32 × (Nat → Int32) × (Nat → Int32) × (Nat → Int32) × (Nat → Int32)) ⊕ (Int32 × (Nat → Int32) × (Nat → Int32) × (Nat → Int32) × (Nat → Int32)))
  | (x2, t_count, t_left_cells, t_endings_values, t_diagonals, t_weights) =>
    if (49 : Int32) ≤ x2 then
      some (.inr (t_count, t_left_cells, t_endings_values, t_diagonals, t_weights))
    else
      (f_X4_countNotZero t_left_size t_left_cells).bind (fun r_5 =>
      if r_5 ≤ 0 then
        some (.inr (t_count, t_left_cells, t_endings_values, t_diagonals, t_weights))
      else
        (f_X2_countWhole t_endings_values t_left_size t_left_cells).bind (fun t_endings_values_8 =>
        (f_X2_diagonalOfRank t_endings_values_8 t_left_size t_left_cells (0 : Int32)).bind (fun r_10 =>
        (f_X4_leastOn t_left_size t_left_cells r_10).bind (fun r_12 =>
        (f_X4_increaseOn t_left_size t_left_cells r_10 (-r_12)).bind (fun t_left_cells_14 =>
        gd (okI x2 49) (
        pl ((upd t_diagonals x2.toNatClampNeg r_10) : Nat → Int32) (fun t_diagonals_17 =>
        gd (okI x2 49) (
        pl ((upd t_weights x2.toNatClampNeg r_12) : Nat → Int32) (fun t_weights_19 =>
        pl ((x2 + (1 : Int32)) : Int32) (fun t_count_20 =>
        pl ((x2 + (1 : Int32)) : Int32) (fun x2_21 =>
        some (.inl (x2_21, t_count_20, t_left_cells_14, t_endings_values_8, t_diagonals_17, t_weights_19)))))))))))))
def f_X6_takeApart (t_count : Int32) (t_left_size : Int32) (t_left_cells : Nat → Int32) (t_endings_values : Nat → Int32) (t_diagonals : Nat → Int32) (t_weights : Nat → Int32) (a1_size : Int32) (a1_cells : Nat → Int32) : Option (Int32 × Int32 × (Nat → Int32) × (Nat → Int32) × (Nat → Int32) × (Nat → Int32)) :=
  (f_X4_copyFrom t_left_size t_left_cells a1_size a1_cells).bind (fun (t_left_size_1, t_left_cells_2) =>
  (lpN (f_X6_takeApart_L1 t_left_size_1) FU ((0 : Int32), (0 : Int32), t_left_cells_2, t_endings_values, t_diagonals, t_weights)).bind (fun (t_count_22, t_left_cells_23, t_endings_values_24, t_diagonals_25, t_weights_26) =>
  some (t_count_22, t_left_size_1, t_left_cells_23, t_endings_values_24, t_diagonals_25, t_weights_26)))
set_option maxHeartbeats 4000000 in
set_option maxRecDepth 100000 in
theorem l_X6_takeApart_1 {p : Program} {l : Launch} {e : Env} {s : State} {m : MethodId} {args : Array Value} {below : List Frame} {meth : Method} {c : Code} {Q : State → Prop} {A0 : Nat → Prop} {H0 : Heap} (C : CallFix p m c cX6_takeApart 5 s args wsX6_takeApart RX6) (G : GT) (hK : gK G s) (hA : ∀ q : Nat, H0.size ≤ q → A0 q) (q_t q_t_left q_t_endings q_t_diagonals q_t_weights q_t_left_cells q_t_endings_values q_a1 q_a1_cells : Nat) (t_left_size : Int32) (a1_size : Int32) (a1_cells : Nat → Int32) (E_t_count : Int32) (E_t_left_cells : Nat → Int32) (E_t_endings_values : Nat → Int32) (E_t_diagonals : Nat → Int32) (E_t_weights : Nat → Int32) (K : ∀ (H : Heap) (locs : List Loc) (ls : Array Slot), va_P G.1 vwCl [(q_t, .inr (5, [.ref q_t_left, .ref q_t_endings, .ref q_t_diagonals, .ref q_t_weights, .int E_t_count])), (q_t_left, .inr (3, [.ref q_t_left_cells, .int t_left_size])), (q_t_left_cells, .inl (G.2 0, 49, .inl E_t_left_cells)), (q_t_endings, .inr (1, [.ref q_t_endings_values])), (q_t_endings_values, .inl (G.2 0, 128, .inl E_t_endings_values)), (q_t_diagonals, .inl (G.2 0, 49, .inl E_t_diagonals)), (q_t_weights, .inl (G.2 0, 49, .inl E_t_weights)), (q_a1, .inr (3, [.ref q_a1_cells, .int a1_size])), (q_a1_cells, .inl (G.2 0, 49, .inl a1_cells))] H → va_D A0 [(q_t, .inr (5, [.ref q_t_left, .ref q_t_endings, .ref q_t_diagonals, .ref q_t_weights, .int E_t_count])), (q_t_left, .inr (3, [.ref q_t_left_cells, .int t_left_size])), (q_t_left_cells, .inl (G.2 0, 49, .inl E_t_left_cells)), (q_t_endings, .inr (1, [.ref q_t_endings_values])), (q_t_endings_values, .inl (G.2 0, 128, .inl E_t_endings_values)), (q_t_diagonals, .inl (G.2 0, 49, .inl E_t_diagonals)), (q_t_weights, .inl (G.2 0, 49, .inl E_t_weights)), (q_a1, .inr (3, [.ref q_a1_cells, .int a1_size])), (q_a1_cells, .inl (G.2 0, 49, .inl a1_cells))] → va_S A0 H0 H locs → lv_has ls 5 [] → W p l e ({ frames := 4, cells := 0, slots := 0, locals := 96 } : Room) s m args below meth c H locs 0 0 Q (F0 m 104 ls [])) : ∀ (n : Nat) (x2 : Int32) (t_count : Int32) (t_left_cells : Nat → Int32) (t_endings_values : Nat → Int32) (t_diagonals : Nat → Int32) (t_weights : Nat → Int32), lpN (f_X6_takeApart_L1 t_left_size) n (x2, t_count, t_left_cells, t_endings_values, t_diagonals, t_weights) = some (E_t_count, E_t_left_cells, E_t_endings_values, E_t_diagonals, E_t_weights) → ∀ (H : Heap) (locs : List Loc) (ls : Array Slot), va_P G.1 vwCl [(q_t, .inr (5, [.ref q_t_left, .ref q_t_endings, .ref q_t_diagonals, .ref q_t_weights, .int t_count])), (q_t_left, .inr (3, [.ref q_t_left_cells, .int t_left_size])), (q_t_left_cells, .inl (G.2 0, 49, .inl t_left_cells)), (q_t_endings, .inr (1, [.ref q_t_endings_values])), (q_t_endings_values, .inl (G.2 0, 128, .inl t_endings_values)), (q_t_diagonals, .inl (G.2 0, 49, .inl t_diagonals)), (q_t_weights, .inl (G.2 0, 49, .inl t_weights)), (q_a1, .inr (3, [.ref q_a1_cells, .int a1_size])), (q_a1_cells, .inl (G.2 0, 49, .inl a1_cells))] H → va_D A0 [(q_t, .inr (5, [.ref q_t_left, .ref q_t_endings, .ref q_t_diagonals, .ref q_t_weights, .int t_count])), (q_t_left, .inr (3, [.ref q_t_left_cells, .int t_left_size])), (q_t_left_cells, .inl (G.2 0, 49, .inl t_left_cells)), (q_t_endings, .inr (1, [.ref q_t_endings_values])), (q_t_endings_values, .inl (G.2 0, 128, .inl t_endings_values)), (q_t_diagonals, .inl (G.2 0, 49, .inl t_diagonals)), (q_t_weights, .inl (G.2 0, 49, .inl t_weights)), (q_a1, .inr (3, [.ref q_a1_cells, .int a1_size])), (q_a1_cells, .inl (G.2 0, 49, .inl a1_cells))] → va_S A0 H0 H locs → lv_has ls 5 [(0, .ref q_t), (2, .int x2)] → W p l e ({ frames := 4, cells := 0, slots := 0, locals := 96 } : Room) s m args below meth c H locs 0 0 Q (F0 m 15 ls []) := by
  obtain ⟨hx, hb, hml, hown, hts⟩ := C
  intro n
  induction n with
  | zero => intro x2 t_count t_left_cells t_endings_values t_diagonals t_weights h; exact absurd h (fun h => lp_0 h)
  | succ n ih =>
    intro x2 t_count t_left_cells t_endings_values t_diagonals t_weights h H locs ls hP hD hS hl
    obtain ⟨y, h, hk⟩ := lp_s h
    rw [f_X6_takeApart_L1] at h
    refine lv_iload_n hx hb dX6_takeApart_15 rfl (lv_at hl 1 rfl) ?_
    refine lv_bipush (v := 49) hx hb dX6_takeApart_16 (by decide) ?_
    refine lv_icmp_ge (tgt := 104) hx hb dX6_takeApart_18 (by decide) (fun c_4 => ?_) (fun c_4 => ?_)
    · replace h := it_t h c_4
      obtain rfl := sm1 h
      obtain ⟨rfl, rfl, rfl, rfl, rfl⟩ := sm5 hk
      exact K H locs ls hP hD hS (lv_sub hl [] rfl)
    · replace h := it_f h c_4
      refine lv_aload_n hx hb dX6_takeApart_21 rfl (lv_at hl 0 rfl) ?_
      refine va_get (D := G.1) (ci := 5) (v := .ref q_t_left) (C := RX6) (T := TX6) (N := 5) hx hb hts wi_X6_takeApart_X6 hown hK hP 0 rfl rfl 0 (by decide) (hts _ wd_X6_takeApart_1) (fun _ h9 => h9) rfl dX6_takeApart_22 ?_
      obtain ⟨r_5, hf_6, h⟩ := bd_ok h
      refine ck_Vi (rest := []) (wn := [(q_t, .inr (5, [.ref q_t_left, .ref q_t_endings, .ref q_t_diagonals, .ref q_t_weights, .int t_count])), (q_t_left, .inr (3, [.ref q_t_left_cells, .int t_left_size])), (q_t_left_cells, .inl (G.2 0, 49, .inl t_left_cells)), (q_t_endings, .inr (1, [.ref q_t_endings_values])), (q_t_endings_values, .inl (G.2 0, 128, .inl t_endings_values)), (q_t_diagonals, .inl (G.2 0, 49, .inl t_diagonals)), (q_t_weights, .inl (G.2 0, 49, .inl t_weights)), (q_a1, .inr (3, [.ref q_a1_cells, .int a1_size])), (q_a1_cells, .inl (G.2 0, 49, .inl a1_cells))]) ⟨hx, hb, hml, hown, hts⟩ hK hP hD hS hA [1, 2] [0, 3, 4, 5, 6, 7, 8] [0, 7, 8, 1, 2, 3, 4, 5, 6] (c_X4_countNotZero l G q_t_left q_t_left_cells _ t_left_size t_left_cells _ hf_6) (cwV 0 hts gX6_takeApart_X4_countNotZero rfl rfl rfl (by decide +kernel) ⟨Nat.le_of_ble_eq_true rfl, Nat.le_of_ble_eq_true rfl⟩) rfl rfl rfl rfl rfl rfl (by decide) rfl rfl rfl hl.1 rfl (Nat.le_of_ble_eq_true rfl) dX6_takeApart_25 ⟨Nat.zero_le _, Nat.zero_le _⟩ (fun H locs hP hD hS => ?_)
      refine lv_if_le (tgt := 104) hx hb dX6_takeApart_28 (by decide) (fun c_7 => ?_) (fun c_7 => ?_)
      · replace h := it_t h c_7
        obtain rfl := sm1 h
        obtain ⟨rfl, rfl, rfl, rfl, rfl⟩ := sm5 hk
        exact K H locs ls hP hD hS (lv_sub hl [] rfl)
      · replace h := it_f h c_7
        refine lv_aload_n hx hb dX6_takeApart_31 rfl (lv_at hl 0 rfl) ?_
        refine va_get (D := G.1) (ci := 5) (v := .ref q_t_endings) (C := RX6) (T := TX6) (N := 5) hx hb hts wi_X6_takeApart_X6 hown hK hP 0 rfl rfl 1 (by decide) (hts _ wd_X6_takeApart_3) (fun _ h9 => h9) rfl dX6_takeApart_32 ?_
        refine lv_aload_n hx hb dX6_takeApart_35 rfl (lv_at hl 0 rfl) ?_
        refine va_get (D := G.1) (ci := 5) (v := .ref q_t_left) (C := RX6) (T := TX6) (N := 5) hx hb hts wi_X6_takeApart_X6 hown hK hP 0 rfl rfl 0 (by decide) (hts _ wd_X6_takeApart_1) (fun _ h9 => h9) rfl dX6_takeApart_36 ?_
        obtain ⟨t_endings_values_8, hf_9, h⟩ := bd_ok h
        refine ck_Vv (rest := []) (wn := [(q_t, .inr (5, [.ref q_t_left, .ref q_t_endings, .ref q_t_diagonals, .ref q_t_weights, .int t_count])), (q_t_left, .inr (3, [.ref q_t_left_cells, .int t_left_size])), (q_t_left_cells, .inl (G.2 0, 49, .inl t_left_cells)), (q_t_endings, .inr (1, [.ref q_t_endings_values])), (q_t_endings_values, .inl (G.2 0, 128, .inl t_endings_values_8)), (q_t_diagonals, .inl (G.2 0, 49, .inl t_diagonals)), (q_t_weights, .inl (G.2 0, 49, .inl t_weights)), (q_a1, .inr (3, [.ref q_a1_cells, .int a1_size])), (q_a1_cells, .inl (G.2 0, 49, .inl a1_cells))]) ⟨hx, hb, hml, hown, hts⟩ hK hP hD hS hA [3, 4, 1, 2] [0, 5, 6, 7, 8] [0, 7, 8, 5, 6, 1, 2, 3, 4] (c_X2_countWhole l G q_t_endings q_t_endings_values q_t_left q_t_left_cells _ t_endings_values t_left_size t_left_cells _ hf_9) (cwV 1 hts gX6_takeApart_X2_countWhole rfl rfl rfl (by decide +kernel) ⟨Nat.le_of_ble_eq_true rfl, Nat.le_of_ble_eq_true rfl⟩) rfl rfl rfl rfl rfl rfl (by decide) rfl rfl rfl hl.1 rfl (Nat.le_of_ble_eq_true rfl) dX6_takeApart_39 ⟨Nat.zero_le _, Nat.zero_le _⟩ (fun H locs hP hD hS => ?_)
        refine lv_aload_n hx hb dX6_takeApart_42 rfl (lv_at hl 0 rfl) ?_
        refine va_get (D := G.1) (ci := 5) (v := .ref q_t_endings) (C := RX6) (T := TX6) (N := 5) hx hb hts wi_X6_takeApart_X6 hown hK hP 0 rfl rfl 1 (by decide) (hts _ wd_X6_takeApart_3) (fun _ h9 => h9) rfl dX6_takeApart_43 ?_
        refine lv_aload_n hx hb dX6_takeApart_46 rfl (lv_at hl 0 rfl) ?_
        refine va_get (D := G.1) (ci := 5) (v := .ref q_t_left) (C := RX6) (T := TX6) (N := 5) hx hb hts wi_X6_takeApart_X6 hown hK hP 0 rfl rfl 0 (by decide) (hts _ wd_X6_takeApart_1) (fun _ h9 => h9) rfl dX6_takeApart_47 ?_
        refine lv_iconst (v := 0) hx hb dX6_takeApart_50 (by decide) ?_
        obtain ⟨r_10, hf_11, h⟩ := bd_ok h
        refine ck_Vi (rest := []) (wn := [(q_t, .inr (5, [.ref q_t_left, .ref q_t_endings, .ref q_t_diagonals, .ref q_t_weights, .int t_count])), (q_t_left, .inr (3, [.ref q_t_left_cells, .int t_left_size])), (q_t_left_cells, .inl (G.2 0, 49, .inl t_left_cells)), (q_t_endings, .inr (1, [.ref q_t_endings_values])), (q_t_endings_values, .inl (G.2 0, 128, .inl t_endings_values_8)), (q_t_diagonals, .inl (G.2 0, 49, .inl t_diagonals)), (q_t_weights, .inl (G.2 0, 49, .inl t_weights)), (q_a1, .inr (3, [.ref q_a1_cells, .int a1_size])), (q_a1_cells, .inl (G.2 0, 49, .inl a1_cells))]) ⟨hx, hb, hml, hown, hts⟩ hK hP hD hS hA [3, 4, 1, 2] [0, 5, 6, 7, 8] [0, 7, 8, 5, 6, 1, 2, 3, 4] (c_X2_diagonalOfRank l G q_t_endings q_t_endings_values q_t_left q_t_left_cells _ t_endings_values_8 t_left_size t_left_cells (0 : Int32) _ hf_11) (cwV 2 hts gX6_takeApart_X2_diagonalOfRank rfl rfl rfl (by decide +kernel) ⟨Nat.le_of_ble_eq_true rfl, Nat.le_of_ble_eq_true rfl⟩) rfl rfl rfl rfl rfl rfl (by decide) rfl rfl rfl hl.1 rfl (Nat.le_of_ble_eq_true rfl) dX6_takeApart_51 ⟨Nat.zero_le _, Nat.zero_le _⟩ (fun H locs hP hD hS => ?_)
        refine lv_istore_n (lv' := [(3, .int r_10), (0, .ref q_t), (2, .int x2)]) hx hb dX6_takeApart_54 rfl hl (by decide) rfl (fun ls hl => ?_)
        refine lv_aload_n hx hb dX6_takeApart_55 rfl (lv_at hl 1 rfl) ?_
        refine va_get (D := G.1) (ci := 5) (v := .ref q_t_left) (C := RX6) (T := TX6) (N := 5) hx hb hts wi_X6_takeApart_X6 hown hK hP 0 rfl rfl 0 (by decide) (hts _ wd_X6_takeApart_1) (fun _ h9 => h9) rfl dX6_takeApart_56 ?_
        refine lv_iload_n hx hb dX6_takeApart_59 rfl (lv_at hl 0 rfl) ?_
        obtain ⟨r_12, hf_13, h⟩ := bd_ok h
        refine ck_Vi (rest := []) (wn := [(q_t, .inr (5, [.ref q_t_left, .ref q_t_endings, .ref q_t_diagonals, .ref q_t_weights, .int t_count])), (q_t_left, .inr (3, [.ref q_t_left_cells, .int t_left_size])), (q_t_left_cells, .inl (G.2 0, 49, .inl t_left_cells)), (q_t_endings, .inr (1, [.ref q_t_endings_values])), (q_t_endings_values, .inl (G.2 0, 128, .inl t_endings_values_8)), (q_t_diagonals, .inl (G.2 0, 49, .inl t_diagonals)), (q_t_weights, .inl (G.2 0, 49, .inl t_weights)), (q_a1, .inr (3, [.ref q_a1_cells, .int a1_size])), (q_a1_cells, .inl (G.2 0, 49, .inl a1_cells))]) ⟨hx, hb, hml, hown, hts⟩ hK hP hD hS hA [1, 2] [0, 3, 4, 5, 6, 7, 8] [0, 7, 8, 1, 2, 3, 4, 5, 6] (c_X4_leastOn l G q_t_left q_t_left_cells _ t_left_size t_left_cells r_10 _ hf_13) (cwV 1 hts gX6_takeApart_X4_leastOn rfl rfl rfl (by decide +kernel) ⟨Nat.le_of_ble_eq_true rfl, Nat.le_of_ble_eq_true rfl⟩) rfl rfl rfl rfl rfl rfl (by decide) rfl rfl rfl hl.1 rfl (Nat.le_of_ble_eq_true rfl) dX6_takeApart_60 ⟨Nat.zero_le _, Nat.zero_le _⟩ (fun H locs hP hD hS => ?_)
        refine lv_istore (lv' := [(4, .int r_12), (3, .int r_10), (0, .ref q_t), (2, .int x2)]) hx hb dX6_takeApart_63 hl (by decide) rfl (fun ls hl => ?_)
        refine lv_aload_n hx hb dX6_takeApart_65 rfl (lv_at hl 2 rfl) ?_
        refine va_get (D := G.1) (ci := 5) (v := .ref q_t_left) (C := RX6) (T := TX6) (N := 5) hx hb hts wi_X6_takeApart_X6 hown hK hP 0 rfl rfl 0 (by decide) (hts _ wd_X6_takeApart_1) (fun _ h9 => h9) rfl dX6_takeApart_66 ?_
        refine lv_iload_n hx hb dX6_takeApart_69 rfl (lv_at hl 1 rfl) ?_
        refine lv_iload hx hb dX6_takeApart_70 (lv_at hl 0 rfl) ?_
        refine lv_ineg hx hb dX6_takeApart_72 ?_
        obtain ⟨t_left_cells_14, hf_15, h⟩ := bd_ok h
        refine ck_Vv (rest := []) (wn := [(q_t, .inr (5, [.ref q_t_left, .ref q_t_endings, .ref q_t_diagonals, .ref q_t_weights, .int t_count])), (q_t_left, .inr (3, [.ref q_t_left_cells, .int t_left_size])), (q_t_left_cells, .inl (G.2 0, 49, .inl t_left_cells_14)), (q_t_endings, .inr (1, [.ref q_t_endings_values])), (q_t_endings_values, .inl (G.2 0, 128, .inl t_endings_values_8)), (q_t_diagonals, .inl (G.2 0, 49, .inl t_diagonals)), (q_t_weights, .inl (G.2 0, 49, .inl t_weights)), (q_a1, .inr (3, [.ref q_a1_cells, .int a1_size])), (q_a1_cells, .inl (G.2 0, 49, .inl a1_cells))]) ⟨hx, hb, hml, hown, hts⟩ hK hP hD hS hA [1, 2] [0, 3, 4, 5, 6, 7, 8] [0, 7, 8, 1, 2, 3, 4, 5, 6] (c_X4_increaseOn l G q_t_left q_t_left_cells _ t_left_size t_left_cells r_10 (-r_12) _ hf_15) (cwV 2 hts gX6_takeApart_X4_increaseOn rfl rfl rfl (by decide +kernel) ⟨Nat.le_of_ble_eq_true rfl, Nat.le_of_ble_eq_true rfl⟩) rfl rfl rfl rfl rfl rfl (by decide) rfl rfl rfl hl.1 rfl (Nat.le_of_ble_eq_true rfl) dX6_takeApart_73 ⟨Nat.zero_le _, Nat.zero_le _⟩ (fun H locs hP hD hS => ?_)
        refine lv_aload_n hx hb dX6_takeApart_76 rfl (lv_at hl 2 rfl) ?_
        refine va_get (D := G.1) (ci := 5) (v := .ref q_t_diagonals) (C := RX6) (T := TX6) (N := 5) hx hb hts wi_X6_takeApart_X6 hown hK hP 0 rfl rfl 2 (by decide) (hts _ wd_X6_takeApart_4) (fun _ h9 => h9) rfl dX6_takeApart_77 ?_
        refine lv_iload_n hx hb dX6_takeApart_80 rfl (lv_at hl 3 rfl) ?_
        refine lv_iload_n hx hb dX6_takeApart_81 rfl (lv_at hl 1 rfl) ?_
        obtain ⟨g_16, h⟩ := gd_ok h
        obtain ⟨t_diagonals_17, et_diagonals_17, h⟩ := pl_ok h
        refine st_i (D := G.1) (wn := [(q_t, .inr (5, [.ref q_t_left, .ref q_t_endings, .ref q_t_diagonals, .ref q_t_weights, .int t_count])), (q_t_left, .inr (3, [.ref q_t_left_cells, .int t_left_size])), (q_t_left_cells, .inl (G.2 0, 49, .inl t_left_cells_14)), (q_t_endings, .inr (1, [.ref q_t_endings_values])), (q_t_endings_values, .inl (G.2 0, 128, .inl t_endings_values_8)), (q_t_diagonals, .inl (G.2 0, 49, .inl t_diagonals_17)), (q_t_weights, .inl (G.2 0, 49, .inl t_weights)), (q_a1, .inr (3, [.ref q_a1_cells, .int a1_size])), (q_a1_cells, .inl (G.2 0, 49, .inl a1_cells))]) hx hb hK hP hD hS 5 0 rfl rfl g_16 dX6_takeApart_82 et_diagonals_17 rfl (fun H locs hP hD hS => ?_)
        refine lv_aload_n hx hb dX6_takeApart_83 rfl (lv_at hl 2 rfl) ?_
        refine va_get (D := G.1) (ci := 5) (v := .ref q_t_weights) (C := RX6) (T := TX6) (N := 5) hx hb hts wi_X6_takeApart_X6 hown hK hP 0 rfl rfl 3 (by decide) (hts _ wd_X6_takeApart_5) (fun _ h9 => h9) rfl dX6_takeApart_84 ?_
        refine lv_iload_n hx hb dX6_takeApart_87 rfl (lv_at hl 3 rfl) ?_
        refine lv_iload hx hb dX6_takeApart_88 (lv_at hl 0 rfl) ?_
        obtain ⟨g_18, h⟩ := gd_ok h
        obtain ⟨t_weights_19, et_weights_19, h⟩ := pl_ok h
        refine st_i (D := G.1) (wn := [(q_t, .inr (5, [.ref q_t_left, .ref q_t_endings, .ref q_t_diagonals, .ref q_t_weights, .int t_count])), (q_t_left, .inr (3, [.ref q_t_left_cells, .int t_left_size])), (q_t_left_cells, .inl (G.2 0, 49, .inl t_left_cells_14)), (q_t_endings, .inr (1, [.ref q_t_endings_values])), (q_t_endings_values, .inl (G.2 0, 128, .inl t_endings_values_8)), (q_t_diagonals, .inl (G.2 0, 49, .inl t_diagonals_17)), (q_t_weights, .inl (G.2 0, 49, .inl t_weights_19)), (q_a1, .inr (3, [.ref q_a1_cells, .int a1_size])), (q_a1_cells, .inl (G.2 0, 49, .inl a1_cells))]) hx hb hK hP hD hS 6 0 rfl rfl g_18 dX6_takeApart_90 et_weights_19 rfl (fun H locs hP hD hS => ?_)
        refine lv_aload_n hx hb dX6_takeApart_91 rfl (lv_at hl 2 rfl) ?_
        refine lv_iload_n hx hb dX6_takeApart_92 rfl (lv_at hl 3 rfl) ?_
        refine lv_iconst (v := 1) hx hb dX6_takeApart_93 (by decide) ?_
        refine lv_iadd hx hb dX6_takeApart_94 ?_
        refine lv_topi (fun t_count_20 et_count_20 => ?_)
        replace h := pl_v h et_count_20
        refine st_put (D := G.1) (ci := 5) (v := .int t_count_20) (ty := .int) (C := RX6) (T := TX6) (N := 5) (wn := [(q_t, .inr (5, [.ref q_t_left, .ref q_t_endings, .ref q_t_diagonals, .ref q_t_weights, .int t_count_20])), (q_t_left, .inr (3, [.ref q_t_left_cells, .int t_left_size])), (q_t_left_cells, .inl (G.2 0, 49, .inl t_left_cells_14)), (q_t_endings, .inr (1, [.ref q_t_endings_values])), (q_t_endings_values, .inl (G.2 0, 128, .inl t_endings_values_8)), (q_t_diagonals, .inl (G.2 0, 49, .inl t_diagonals_17)), (q_t_weights, .inl (G.2 0, 49, .inl t_weights_19)), (q_a1, .inr (3, [.ref q_a1_cells, .int a1_size])), (q_a1_cells, .inl (G.2 0, 49, .inl a1_cells))]) hx hb hts wi_X6_takeApart_X6 tyX6 tyX6_ok nmX6 hown hK hP hD hS 0 rfl rfl 4 (by decide) (hts _ wd_X6_takeApart_2) (fun _ h9 => h9) rfl (by decide +kernel) rfl rfl (Nat.le_of_ble_eq_true rfl) dX6_takeApart_95 rfl (fun H locs hP hD hS => ?_)
        obtain ⟨x2_21, ex2_21, h⟩ := pl_ok h
        refine lv_iinc (v := x2_21) (lv' := [(2, .int x2_21), (4, .int r_12), (3, .int r_10), (0, .ref q_t)]) hx hb dX6_takeApart_98 hl (k := 3) rfl (by rw [ex2_21]; rfl) (by decide) rfl (fun ls hl => ?_)
        refine lv_goto (tgt := 15) hx hb dX6_takeApart_101 (by decide) ?_
        obtain rfl := sm1 h
        exact ih x2_21 t_count_20 t_left_cells_14 t_endings_values_8 t_diagonals_17 t_weights_19 hk H locs ls hP hD hS (lv_sub hl [3, 0] rfl)
set_option maxHeartbeats 4000000 in
set_option maxRecDepth 100000 in
theorem k_X6_takeApart {p : Program} {l : Launch} {e : Env} {s : State} {m : MethodId} {args : Array Value} {below : List Frame} {meth : Method} {c : Code} {Q : State → Prop} {A0 : Nat → Prop} {H0 : Heap} (C : CallFix p m c cX6_takeApart 5 s args wsX6_takeApart RX6) (G : GT) (hK : gK G s) (hA : ∀ q : Nat, H0.size ≤ q → A0 q) (q_t q_t_left q_t_endings q_t_diagonals q_t_weights q_t_left_cells q_t_endings_values q_a1 q_a1_cells : Nat) (t_count : Int32) (t_left_size : Int32) (t_left_cells : Nat → Int32) (t_endings_values : Nat → Int32) (t_diagonals : Nat → Int32) (t_weights : Nat → Int32) (a1_size : Int32) (a1_cells : Nat → Int32) (o_t_count : Int32) (o_t_left_size : Int32) (o_t_left_cells : Nat → Int32) (o_t_endings_values : Nat → Int32) (o_t_diagonals : Nat → Int32) (o_t_weights : Nat → Int32) (h : f_X6_takeApart t_count t_left_size t_left_cells t_endings_values t_diagonals t_weights a1_size a1_cells = some (o_t_count, o_t_left_size, o_t_left_cells, o_t_endings_values, o_t_diagonals, o_t_weights)) (KR : ∀ (H : Heap) (locs : List Loc) (ls : Array Slot) (pc : Nat), decode cX6_takeApart pc = .ok (.return_, 1) → va_P G.1 vwCl [(q_t, .inr (5, [.ref q_t_left, .ref q_t_endings, .ref q_t_diagonals, .ref q_t_weights, .int o_t_count])), (q_t_left, .inr (3, [.ref q_t_left_cells, .int o_t_left_size])), (q_t_left_cells, .inl (G.2 0, 49, .inl o_t_left_cells)), (q_t_endings, .inr (1, [.ref q_t_endings_values])), (q_t_endings_values, .inl (G.2 0, 128, .inl o_t_endings_values)), (q_t_diagonals, .inl (G.2 0, 49, .inl o_t_diagonals)), (q_t_weights, .inl (G.2 0, 49, .inl o_t_weights)), (q_a1, .inr (3, [.ref q_a1_cells, .int a1_size])), (q_a1_cells, .inl (G.2 0, 49, .inl a1_cells))] H → va_D A0 [(q_t, .inr (5, [.ref q_t_left, .ref q_t_endings, .ref q_t_diagonals, .ref q_t_weights, .int o_t_count])), (q_t_left, .inr (3, [.ref q_t_left_cells, .int o_t_left_size])), (q_t_left_cells, .inl (G.2 0, 49, .inl o_t_left_cells)), (q_t_endings, .inr (1, [.ref q_t_endings_values])), (q_t_endings_values, .inl (G.2 0, 128, .inl o_t_endings_values)), (q_t_diagonals, .inl (G.2 0, 49, .inl o_t_diagonals)), (q_t_weights, .inl (G.2 0, 49, .inl o_t_weights)), (q_a1, .inr (3, [.ref q_a1_cells, .int a1_size])), (q_a1_cells, .inl (G.2 0, 49, .inl a1_cells))] → va_S A0 H0 H locs → W p l e ({ frames := 4, cells := 0, slots := 0, locals := 96 } : Room) s m args below meth c H locs 0 0 Q (F0 m pc ls [])) : ∀ (H : Heap) (locs : List Loc) (ls : Array Slot), va_P G.1 vwCl [(q_t, .inr (5, [.ref q_t_left, .ref q_t_endings, .ref q_t_diagonals, .ref q_t_weights, .int t_count])), (q_t_left, .inr (3, [.ref q_t_left_cells, .int t_left_size])), (q_t_left_cells, .inl (G.2 0, 49, .inl t_left_cells)), (q_t_endings, .inr (1, [.ref q_t_endings_values])), (q_t_endings_values, .inl (G.2 0, 128, .inl t_endings_values)), (q_t_diagonals, .inl (G.2 0, 49, .inl t_diagonals)), (q_t_weights, .inl (G.2 0, 49, .inl t_weights)), (q_a1, .inr (3, [.ref q_a1_cells, .int a1_size])), (q_a1_cells, .inl (G.2 0, 49, .inl a1_cells))] H → va_D A0 [(q_t, .inr (5, [.ref q_t_left, .ref q_t_endings, .ref q_t_diagonals, .ref q_t_weights, .int t_count])), (q_t_left, .inr (3, [.ref q_t_left_cells, .int t_left_size])), (q_t_left_cells, .inl (G.2 0, 49, .inl t_left_cells)), (q_t_endings, .inr (1, [.ref q_t_endings_values])), (q_t_endings_values, .inl (G.2 0, 128, .inl t_endings_values)), (q_t_diagonals, .inl (G.2 0, 49, .inl t_diagonals)), (q_t_weights, .inl (G.2 0, 49, .inl t_weights)), (q_a1, .inr (3, [.ref q_a1_cells, .int a1_size])), (q_a1_cells, .inl (G.2 0, 49, .inl a1_cells))] → va_S A0 H0 H locs → lv_has ls 5 [(0, .ref q_t), (1, .ref q_a1)] → W p l e ({ frames := 4, cells := 0, slots := 0, locals := 96 } : Room) s m args below meth c H locs 0 0 Q (F0 m 0 ls []) := by
  obtain ⟨hx, hb, hml, hown, hts⟩ := C
  intro H locs ls hP hD hS hl
  rw [f_X6_takeApart] at h
  refine lv_aload_n hx hb dX6_takeApart_0 rfl (lv_at hl 0 rfl) ?_
  refine va_get (D := G.1) (ci := 5) (v := .ref q_t_left) (C := RX6) (T := TX6) (N := 5) hx hb hts wi_X6_takeApart_X6 hown hK hP 0 rfl rfl 0 (by decide) (hts _ wd_X6_takeApart_1) (fun _ h9 => h9) rfl dX6_takeApart_1 ?_
  refine lv_aload_n hx hb dX6_takeApart_4 rfl (lv_at hl 1 rfl) ?_
  obtain ⟨⟨t_left_size_1, t_left_cells_2⟩, hf_3, h⟩ := bd_ok h
  refine ck_Vv (rest := []) (wn := [(q_t, .inr (5, [.ref q_t_left, .ref q_t_endings, .ref q_t_diagonals, .ref q_t_weights, .int t_count])), (q_t_left, .inr (3, [.ref q_t_left_cells, .int t_left_size_1])), (q_t_left_cells, .inl (G.2 0, 49, .inl t_left_cells_2)), (q_t_endings, .inr (1, [.ref q_t_endings_values])), (q_t_endings_values, .inl (G.2 0, 128, .inl t_endings_values)), (q_t_diagonals, .inl (G.2 0, 49, .inl t_diagonals)), (q_t_weights, .inl (G.2 0, 49, .inl t_weights)), (q_a1, .inr (3, [.ref q_a1_cells, .int a1_size])), (q_a1_cells, .inl (G.2 0, 49, .inl a1_cells))]) ⟨hx, hb, hml, hown, hts⟩ hK hP hD hS hA [1, 2, 7, 8] [0, 3, 4, 5, 6] [0, 5, 6, 1, 2, 3, 4, 7, 8] (c_X4_copyFrom l G q_t_left q_t_left_cells q_a1 q_a1_cells _ t_left_size t_left_cells a1_size a1_cells _ _ hf_3) (cwV 1 hts gX6_takeApart_X4_copyFrom rfl rfl rfl (by decide +kernel) ⟨Nat.le_of_ble_eq_true rfl, Nat.le_of_ble_eq_true rfl⟩) rfl rfl rfl rfl rfl rfl (by decide) rfl rfl rfl hl.1 rfl (Nat.le_of_ble_eq_true rfl) dX6_takeApart_5 ⟨Nat.zero_le _, Nat.zero_le _⟩ (fun H locs hP hD hS => ?_)
  refine lv_aload_n hx hb dX6_takeApart_8 rfl (lv_at hl 0 rfl) ?_
  refine lv_iconst (v := 0) hx hb dX6_takeApart_9 (by decide) ?_
  refine st_put (D := G.1) (ci := 5) (v := .int (0 : Int32)) (ty := .int) (C := RX6) (T := TX6) (N := 5) (wn := [(q_t, .inr (5, [.ref q_t_left, .ref q_t_endings, .ref q_t_diagonals, .ref q_t_weights, .int (0 : Int32)])), (q_t_left, .inr (3, [.ref q_t_left_cells, .int t_left_size_1])), (q_t_left_cells, .inl (G.2 0, 49, .inl t_left_cells_2)), (q_t_endings, .inr (1, [.ref q_t_endings_values])), (q_t_endings_values, .inl (G.2 0, 128, .inl t_endings_values)), (q_t_diagonals, .inl (G.2 0, 49, .inl t_diagonals)), (q_t_weights, .inl (G.2 0, 49, .inl t_weights)), (q_a1, .inr (3, [.ref q_a1_cells, .int a1_size])), (q_a1_cells, .inl (G.2 0, 49, .inl a1_cells))]) hx hb hts wi_X6_takeApart_X6 tyX6 tyX6_ok nmX6 hown hK hP hD hS 0 rfl rfl 4 (by decide) (hts _ wd_X6_takeApart_2) (fun _ h9 => h9) rfl (by decide +kernel) rfl rfl (Nat.le_of_ble_eq_true rfl) dX6_takeApart_10 rfl (fun H locs hP hD hS => ?_)
  refine lv_iconst (v := 0) hx hb dX6_takeApart_13 (by decide) ?_
  refine lv_istore_n (lv' := [(2, .int (0 : Int32)), (0, .ref q_t), (1, .ref q_a1)]) hx hb dX6_takeApart_14 rfl hl (by decide) rfl (fun ls hl => ?_)
  obtain ⟨⟨t_count_22, t_left_cells_23, t_endings_values_24, t_diagonals_25, t_weights_26⟩, hz_28, h⟩ := bd_ok h
  refine l_X6_takeApart_1 ⟨hx, hb, hml, hown, hts⟩ G hK hA q_t q_t_left q_t_endings q_t_diagonals q_t_weights q_t_left_cells q_t_endings_values q_a1 q_a1_cells t_left_size_1 a1_size a1_cells t_count_22 t_left_cells_23 t_endings_values_24 t_diagonals_25 t_weights_26 ?_ FU (0 : Int32) (0 : Int32) t_left_cells_2 t_endings_values t_diagonals t_weights hz_28 H locs ls hP hD hS (lv_sub hl [1, 0] rfl)
  intro H locs ls hP hD hS hl
  obtain ⟨rfl, rfl, rfl, rfl, rfl, rfl⟩ := sm6 h
  exact KR H locs ls 104 dX6_takeApart_104 hP hD hS
set_option maxHeartbeats 4000000 in
set_option maxRecDepth 100000 in
theorem c_X6_takeApart (l : Launch) (G : GT) (q_t q_t_left q_t_endings q_t_diagonals q_t_weights q_t_left_cells q_t_endings_values q_a1 q_a1_cells : Nat) (sz : Nat) (t_count : Int32) (t_left_size : Int32) (t_left_cells : Nat → Int32) (t_endings_values : Nat → Int32) (t_diagonals : Nat → Int32) (t_weights : Nat → Int32) (a1_size : Int32) (a1_cells : Nat → Int32) (o_t_count : Int32) (o_t_left_size : Int32) (o_t_left_cells : Nat → Int32) (o_t_endings_values : Nat → Int32) (o_t_diagonals : Nat → Int32) (o_t_weights : Nat → Int32) (h : f_X6_takeApart t_count t_left_size t_left_cells t_endings_values t_diagonals t_weights a1_size a1_cells = some (o_t_count, o_t_left_size, o_t_left_cells, o_t_endings_values, o_t_diagonals, o_t_weights)) : Met l yX6_takeApart wsX6_takeApart ({ frames := 4, cells := 0, slots := 0, locals := 96 } : Room) (va_Pc [.ref q_t, .ref q_a1] (pcW G [(q_t, .inr (5, [.ref q_t_left, .ref q_t_endings, .ref q_t_diagonals, .ref q_t_weights, .int t_count])), (q_t_left, .inr (3, [.ref q_t_left_cells, .int t_left_size])), (q_t_left_cells, .inl (G.2 0, 49, .inl t_left_cells)), (q_t_endings, .inr (1, [.ref q_t_endings_values])), (q_t_endings_values, .inl (G.2 0, 128, .inl t_endings_values)), (q_t_diagonals, .inl (G.2 0, 49, .inl t_diagonals)), (q_t_weights, .inl (G.2 0, 49, .inl t_weights)), (q_a1, .inr (3, [.ref q_a1_cells, .int a1_size])), (q_a1_cells, .inl (G.2 0, 49, .inl a1_cells))] sz)) (va_Qv (fun (_ : Unit) => True) (fun _ t => atW G (va_A [(q_t, .inr (5, [.ref q_t_left, .ref q_t_endings, .ref q_t_diagonals, .ref q_t_weights, .int t_count])), (q_t_left, .inr (3, [.ref q_t_left_cells, .int t_left_size])), (q_t_left_cells, .inl (G.2 0, 49, .inl t_left_cells)), (q_t_endings, .inr (1, [.ref q_t_endings_values])), (q_t_endings_values, .inl (G.2 0, 128, .inl t_endings_values)), (q_t_diagonals, .inl (G.2 0, 49, .inl t_diagonals)), (q_t_weights, .inl (G.2 0, 49, .inl t_weights)), (q_a1, .inr (3, [.ref q_a1_cells, .int a1_size])), (q_a1_cells, .inl (G.2 0, 49, .inl a1_cells))] sz) [(q_t, .inr (5, [.ref q_t_left, .ref q_t_endings, .ref q_t_diagonals, .ref q_t_weights, .int o_t_count])), (q_t_left, .inr (3, [.ref q_t_left_cells, .int o_t_left_size])), (q_t_left_cells, .inl (G.2 0, 49, .inl o_t_left_cells)), (q_t_endings, .inr (1, [.ref q_t_endings_values])), (q_t_endings_values, .inl (G.2 0, 128, .inl o_t_endings_values)), (q_t_diagonals, .inl (G.2 0, 49, .inl o_t_diagonals)), (q_t_weights, .inl (G.2 0, 49, .inl o_t_weights)), (q_a1, .inr (3, [.ref q_a1_cells, .int a1_size])), (q_a1_cells, .inl (G.2 0, 49, .inl a1_cells))] t) (va_A [(q_t, .inr (5, [.ref q_t_left, .ref q_t_endings, .ref q_t_diagonals, .ref q_t_weights, .int t_count])), (q_t_left, .inr (3, [.ref q_t_left_cells, .int t_left_size])), (q_t_left_cells, .inl (G.2 0, 49, .inl t_left_cells)), (q_t_endings, .inr (1, [.ref q_t_endings_values])), (q_t_endings_values, .inl (G.2 0, 128, .inl t_endings_values)), (q_t_diagonals, .inl (G.2 0, 49, .inl t_diagonals)), (q_t_weights, .inl (G.2 0, 49, .inl t_weights)), (q_a1, .inr (3, [.ref q_a1_cells, .int a1_size])), (q_a1_cells, .inl (G.2 0, 49, .inl a1_cells))] sz)) 0 0 (va_A [(q_t, .inr (5, [.ref q_t_left, .ref q_t_endings, .ref q_t_diagonals, .ref q_t_weights, .int t_count])), (q_t_left, .inr (3, [.ref q_t_left_cells, .int t_left_size])), (q_t_left_cells, .inl (G.2 0, 49, .inl t_left_cells)), (q_t_endings, .inr (1, [.ref q_t_endings_values])), (q_t_endings_values, .inl (G.2 0, 128, .inl t_endings_values)), (q_t_diagonals, .inl (G.2 0, 49, .inl t_diagonals)), (q_t_weights, .inl (G.2 0, 49, .inl t_weights)), (q_a1, .inr (3, [.ref q_a1_cells, .int a1_size])), (q_a1_cells, .inl (G.2 0, 49, .inl a1_cells))] sz) := by
  refine Met.ofW (cc := cX6_takeApart) (maxL := 5) (ret := none) (by decide) rfl ?_
  intro p e s m args below meth c s₁ B hml hv
  obtain ⟨rfl, hsz, hP, hK, hD0⟩ := hv
  subst hsz
  have hD := hD0.self (sz := s.heap.size)
  generalize hAe : va_A [(q_t, .inr (5, [.ref q_t_left, .ref q_t_endings, .ref q_t_diagonals, .ref q_t_weights, .int t_count])), (q_t_left, .inr (3, [.ref q_t_left_cells, .int t_left_size])), (q_t_left_cells, .inl (G.2 0, 49, .inl t_left_cells)), (q_t_endings, .inr (1, [.ref q_t_endings_values])), (q_t_endings_values, .inl (G.2 0, 128, .inl t_endings_values)), (q_t_diagonals, .inl (G.2 0, 49, .inl t_diagonals)), (q_t_weights, .inl (G.2 0, 49, .inl t_weights)), (q_a1, .inr (3, [.ref q_a1_cells, .int a1_size])), (q_a1_cells, .inl (G.2 0, 49, .inl a1_cells))] s.heap.size = A at hD ⊢
  have hA : ∀ q : Nat, s.heap.size ≤ q → A q := fun q h => by rw [← hAe]; exact Or.inr h
  have hl := lv_entry ([.ref q_t, .ref q_a1]) (n := 5) (Nat.le_of_ble_eq_true rfl)
  rw [lg_entry_eq]
  refine k_X6_takeApart ⟨B.exec, B.bytes, hml, findClass_of_methodNamed B.named, atoms_spec (ws := wsX6_takeApart) B.pre⟩ G hK hA q_t q_t_left q_t_endings q_t_diagonals q_t_weights q_t_left_cells q_t_endings_values q_a1 q_a1_cells _ _ _ _ _ _ _ _ _ _ _ _ _ _ h ?_ _ _ _ hP hD va_S.rf hl
  intro H locs ls pc hd hP hD hS
  exact W.vret B.exec B.bytes B.returns (fun t ht hW => ⟨⟨(), rfl, trivial, by rw [ht]; exact hP, hD⟩, hS.F ht⟩) hS.2.2 hd B.notSynchronized
