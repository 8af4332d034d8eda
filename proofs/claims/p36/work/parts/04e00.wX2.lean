set_option maxRecDepth 20000 in
theorem wd_X2_of_1 : Cond.fieldLink RX2 9 "PermanentDesk$Endings" "values" "[I" ∈ wsX2_of := List.mem_of_getElem? (i := 1) (by decide +kernel)
set_option maxRecDepth 20000 in
theorem wi_X2_of_X2 : ∀ w ∈ u_ws RX2 TX2 1, w ∈ wsX2_of := by decide +kernel
def f_X2_of (t_values : Nat → Int32) (a1 : Int32) : Option Int32 :=
  if a1 < 0 then
    some (0 : Int32)
  else
    if (128 : Int32) ≤ a1 then
      some (0 : Int32)
    else
      gd (okI a1 128) (
      some (t_values a1.toNatClampNeg))
set_option maxHeartbeats 4000000 in
set_option maxRecDepth 100000 in
theorem k_X2_of {p : Program} {l : Launch} {e : Env} {s : State} {m : MethodId} {args : Array Value} {below : List Frame} {meth : Method} {c : Code} {Q : State → Prop} {A0 : Nat → Prop} {H0 : Heap} (C : CallFix p m c cX2_of 2 s args wsX2_of RX2) (G : GT) (hK : gK G s) (hA : ∀ q : Nat, H0.size ≤ q → A0 q) (q_t q_t_values : Nat) (t_values : Nat → Int32) (a1 : Int32) (r : Int32) (h : f_X2_of t_values a1 = some r) (KR : ∀ (H : Heap) (locs : List Loc) (ls : Array Slot) (pc : Nat), decode cX2_of pc = .ok (.ireturn, 1) → va_P G.1 vwCl [(q_t, .inr (1, [.ref q_t_values])), (q_t_values, .inl (G.2 0, 128, .inl t_values))] H → va_D A0 [(q_t, .inr (1, [.ref q_t_values])), (q_t_values, .inl (G.2 0, 128, .inl t_values))] → va_S A0 H0 H locs → W p l e ({ frames := 0, cells := 0, slots := 0, locals := 0 } : Room) s m args below meth c H locs 0 0 Q (F0 m pc ls [.int r])) : ∀ (H : Heap) (locs : List Loc) (ls : Array Slot), va_P G.1 vwCl [(q_t, .inr (1, [.ref q_t_values])), (q_t_values, .inl (G.2 0, 128, .inl t_values))] H → va_D A0 [(q_t, .inr (1, [.ref q_t_values])), (q_t_values, .inl (G.2 0, 128, .inl t_values))] → va_S A0 H0 H locs → lv_has ls 2 [(0, .ref q_t), (1, .int a1)] → W p l e ({ frames := 0, cells := 0, slots := 0, locals := 0 } : Room) s m args below meth c H locs 0 0 Q (F0 m 0 ls []) := by
  obtain ⟨hx, hb, hml, hown, hts⟩ := C
  intro H locs ls hP hD hS hl
  rw [f_X2_of] at h
  refine lv_iload_n hx hb dX2_of_0 rfl (lv_at hl 1 rfl) ?_
  refine lv_if_lt (tgt := 20) hx hb dX2_of_1 (by decide) (fun c_1 => ?_) (fun c_1 => ?_)
  · replace h := it_t h c_1
    refine lv_iconst (v := 0) hx hb dX2_of_20 (by decide) ?_
    obtain rfl := sm1 h
    exact KR H locs ls 21 dX2_of_21 hP hD hS
  · replace h := it_f h c_1
    refine lv_iload_n hx hb dX2_of_4 rfl (lv_at hl 1 rfl) ?_
    refine lv_sipush (v := 128) hx hb dX2_of_5 (by decide) ?_
    refine lv_icmp_ge (tgt := 20) hx hb dX2_of_8 (by decide) (fun c_2 => ?_) (fun c_2 => ?_)
    · replace h := it_t h c_2
      refine lv_iconst (v := 0) hx hb dX2_of_20 (by decide) ?_
      obtain rfl := sm1 h
      exact KR H locs ls 21 dX2_of_21 hP hD hS
    · replace h := it_f h c_2
      refine lv_aload_n hx hb dX2_of_11 rfl (lv_at hl 0 rfl) ?_
      refine va_get (D := G.1) (ci := 1) (v := .ref q_t_values) (C := RX2) (T := TX2) (N := 1) hx hb hts wi_X2_of_X2 hown hK hP 0 rfl rfl 0 (by decide) (hts _ wd_X2_of_1) (fun _ h9 => h9) rfl dX2_of_12 ?_
      refine lv_iload_n hx hb dX2_of_15 rfl (lv_at hl 1 rfl) ?_
      obtain ⟨g_3, h⟩ := gd_ok h
      refine va_iald (D := G.1) hx hb hK hP 1 0 rfl rfl g_3 dX2_of_16 ?_
      refine lv_goto (tgt := 21) hx hb dX2_of_17 (by decide) ?_
      obtain rfl := sm1 h
      exact KR H locs ls 21 dX2_of_21 hP hD hS
set_option maxHeartbeats 4000000 in
set_option maxRecDepth 100000 in
theorem c_X2_of (l : Launch) (G : GT) (q_t q_t_values : Nat) (sz : Nat) (t_values : Nat → Int32) (a1 : Int32) (r : Int32) (h : f_X2_of t_values a1 = some r) : Met l yX2_of wsX2_of ({ frames := 0, cells := 0, slots := 0, locals := 0 } : Room) (va_Pc [.ref q_t, .int a1] (pcW G [(q_t, .inr (1, [.ref q_t_values])), (q_t_values, .inl (G.2 0, 128, .inl t_values))] sz)) (va_Qi (fun r9 (_ : Unit) => r9 = r) (fun _ t => atW G (va_A [(q_t, .inr (1, [.ref q_t_values])), (q_t_values, .inl (G.2 0, 128, .inl t_values))] sz) [(q_t, .inr (1, [.ref q_t_values])), (q_t_values, .inl (G.2 0, 128, .inl t_values))] t) (va_A [(q_t, .inr (1, [.ref q_t_values])), (q_t_values, .inl (G.2 0, 128, .inl t_values))] sz)) 0 0 (va_A [(q_t, .inr (1, [.ref q_t_values])), (q_t_values, .inl (G.2 0, 128, .inl t_values))] sz) := by
  refine Met.ofW (cc := cX2_of) (maxL := 2) (ret := (some .int)) (by decide) rfl ?_
  intro p e s m args below meth c s₁ B hml hv
  obtain ⟨rfl, hsz, hP, hK, hD0⟩ := hv
  subst hsz
  have hD := hD0.self (sz := s.heap.size)
  generalize hAe : va_A [(q_t, .inr (1, [.ref q_t_values])), (q_t_values, .inl (G.2 0, 128, .inl t_values))] s.heap.size = A at hD ⊢
  have hA : ∀ q : Nat, s.heap.size ≤ q → A q := fun q h => by rw [← hAe]; exact Or.inr h
  have hl := lv_entry ([.ref q_t, .int a1]) (n := 2) (Nat.le_of_ble_eq_true rfl)
  rw [lg_entry_eq]
  refine k_X2_of ⟨B.exec, B.bytes, hml, findClass_of_methodNamed B.named, atoms_spec (ws := wsX2_of) B.pre⟩ G hK hA q_t q_t_values _ _ _ h ?_ _ _ _ hP hD va_S.rf hl
  intro H locs ls pc hd hP hD hS
  exact W.iret B.exec B.bytes B.returns (fun t ht hW => ⟨⟨r, (), rfl, rfl, by rw [ht]; exact hP, hD⟩, hS.F ht⟩) hS.2.2 hd B.notSynchronized
set_option maxRecDepth 20000 in
theorem wd_X2_put_1 : Cond.fieldLink RX2 9 "PermanentDesk$Endings" "values" "[I" ∈ wsX2_put := List.mem_of_getElem? (i := 1) (by decide +kernel)
set_option maxRecDepth 20000 in
theorem wi_X2_put_X2 : ∀ w ∈ u_ws RX2 TX2 1, w ∈ wsX2_put := by decide +kernel
def f_X2_put (t_values : Nat → Int32) (a1 : Int32) (a2 : Int32) : Option (Nat → Int32) :=
  if a1 < 0 then
    some t_values
  else
    if (128 : Int32) ≤ a1 then
      some t_values
    else
      gd (okI a1 128) (
      pl ((upd t_values a1.toNatClampNeg a2) : Nat → Int32) (fun t_values_4 =>
      some t_values_4))
set_option maxHeartbeats 4000000 in
set_option maxRecDepth 100000 in
theorem k_X2_put {p : Program} {l : Launch} {e : Env} {s : State} {m : MethodId} {args : Array Value} {below : List Frame} {meth : Method} {c : Code} {Q : State → Prop} {A0 : Nat → Prop} {H0 : Heap} (C : CallFix p m c cX2_put 3 s args wsX2_put RX2) (G : GT) (hK : gK G s) (hA : ∀ q : Nat, H0.size ≤ q → A0 q) (q_t q_t_values : Nat) (t_values : Nat → Int32) (a1 : Int32) (a2 : Int32) (o_t_values : Nat → Int32) (h : f_X2_put t_values a1 a2 = some o_t_values) (KR : ∀ (H : Heap) (locs : List Loc) (ls : Array Slot) (pc : Nat), decode cX2_put pc = .ok (.return_, 1) → va_P G.1 vwCl [(q_t, .inr (1, [.ref q_t_values])), (q_t_values, .inl (G.2 0, 128, .inl o_t_values))] H → va_D A0 [(q_t, .inr (1, [.ref q_t_values])), (q_t_values, .inl (G.2 0, 128, .inl o_t_values))] → va_S A0 H0 H locs → W p l e ({ frames := 0, cells := 0, slots := 0, locals := 0 } : Room) s m args below meth c H locs 0 0 Q (F0 m pc ls [])) : ∀ (H : Heap) (locs : List Loc) (ls : Array Slot), va_P G.1 vwCl [(q_t, .inr (1, [.ref q_t_values])), (q_t_values, .inl (G.2 0, 128, .inl t_values))] H → va_D A0 [(q_t, .inr (1, [.ref q_t_values])), (q_t_values, .inl (G.2 0, 128, .inl t_values))] → va_S A0 H0 H locs → lv_has ls 3 [(0, .ref q_t), (1, .int a1), (2, .int a2)] → W p l e ({ frames := 0, cells := 0, slots := 0, locals := 0 } : Room) s m args below meth c H locs 0 0 Q (F0 m 0 ls []) := by
  obtain ⟨hx, hb, hml, hown, hts⟩ := C
  intro H locs ls hP hD hS hl
  rw [f_X2_put] at h
  refine lv_iload_n hx hb dX2_put_0 rfl (lv_at hl 1 rfl) ?_
  refine lv_if_lt (tgt := 18) hx hb dX2_put_1 (by decide) (fun c_1 => ?_) (fun c_1 => ?_)
  · replace h := it_t h c_1
    obtain rfl := sm1 h
    exact KR H locs ls 18 dX2_put_18 hP hD hS
  · replace h := it_f h c_1
    refine lv_iload_n hx hb dX2_put_4 rfl (lv_at hl 1 rfl) ?_
    refine lv_sipush (v := 128) hx hb dX2_put_5 (by decide) ?_
    refine lv_icmp_ge (tgt := 18) hx hb dX2_put_8 (by decide) (fun c_2 => ?_) (fun c_2 => ?_)
    · replace h := it_t h c_2
      obtain rfl := sm1 h
      exact KR H locs ls 18 dX2_put_18 hP hD hS
    · replace h := it_f h c_2
      refine lv_aload_n hx hb dX2_put_11 rfl (lv_at hl 0 rfl) ?_
      refine va_get (D := G.1) (ci := 1) (v := .ref q_t_values) (C := RX2) (T := TX2) (N := 1) hx hb hts wi_X2_put_X2 hown hK hP 0 rfl rfl 0 (by decide) (hts _ wd_X2_put_1) (fun _ h9 => h9) rfl dX2_put_12 ?_
      refine lv_iload_n hx hb dX2_put_15 rfl (lv_at hl 1 rfl) ?_
      refine lv_iload_n hx hb dX2_put_16 rfl (lv_at hl 2 rfl) ?_
      obtain ⟨g_3, h⟩ := gd_ok h
      obtain ⟨t_values_4, et_values_4, h⟩ := pl_ok h
      refine st_i (D := G.1) (wn := [(q_t, .inr (1, [.ref q_t_values])), (q_t_values, .inl (G.2 0, 128, .inl t_values_4))]) hx hb hK hP hD hS 1 0 rfl rfl g_3 dX2_put_17 et_values_4 rfl (fun H locs hP hD hS => ?_)
      obtain rfl := sm1 h
      exact KR H locs ls 18 dX2_put_18 hP hD hS
set_option maxHeartbeats 4000000 in
set_option maxRecDepth 100000 in
theorem c_X2_put (l : Launch) (G : GT) (q_t q_t_values : Nat) (sz : Nat) (t_values : Nat → Int32) (a1 : Int32) (a2 : Int32) (o_t_values : Nat → Int32) (h : f_X2_put t_values a1 a2 = some o_t_values) : Met l yX2_put wsX2_put ({ frames := 0, cells := 0, slots := 0, locals := 0 } : Room) (va_Pc [.ref q_t, .int a1, .int a2] (pcW G [(q_t, .inr (1, [.ref q_t_values])), (q_t_values, .inl (G.2 0, 128, .inl t_values))] sz)) (va_Qv (fun (_ : Unit) => True) (fun _ t => atW G (va_A [(q_t, .inr (1, [.ref q_t_values])), (q_t_values, .inl (G.2 0, 128, .inl t_values))] sz) [(q_t, .inr (1, [.ref q_t_values])), (q_t_values, .inl (G.2 0, 128, .inl o_t_values))] t) (va_A [(q_t, .inr (1, [.ref q_t_values])), (q_t_values, .inl (G.2 0, 128, .inl t_values))] sz)) 0 0 (va_A [(q_t, .inr (1, [.ref q_t_values])), (q_t_values, .inl (G.2 0, 128, .inl t_values))] sz) := by
  refine Met.ofW (cc := cX2_put) (maxL := 3) (ret := none) (by decide) rfl ?_
  intro p e s m args below meth c s₁ B hml hv
  obtain ⟨rfl, hsz, hP, hK, hD0⟩ := hv
  subst hsz
  have hD := hD0.self (sz := s.heap.size)
  generalize hAe : va_A [(q_t, .inr (1, [.ref q_t_values])), (q_t_values, .inl (G.2 0, 128, .inl t_values))] s.heap.size = A at hD ⊢
  have hA : ∀ q : Nat, s.heap.size ≤ q → A q := fun q h => by rw [← hAe]; exact Or.inr h
  have hl := lv_entry ([.ref q_t, .int a1, .int a2]) (n := 3) (Nat.le_of_ble_eq_true rfl)
  rw [lg_entry_eq]
  refine k_X2_put ⟨B.exec, B.bytes, hml, findClass_of_methodNamed B.named, atoms_spec (ws := wsX2_put) B.pre⟩ G hK hA q_t q_t_values _ _ _ _ h ?_ _ _ _ hP hD va_S.rf hl
  intro H locs ls pc hd hP hD hS
  exact W.vret B.exec B.bytes B.returns (fun t ht hW => ⟨⟨(), rfl, trivial, by rw [ht]; exact hP, hD⟩, hS.F ht⟩) hS.2.2 hd B.notSynchronized
def f_X2_countThrough (t_values : Nat → Int32) (a1_size : Int32) (a1_cells : Nat → Int32) (a2 : Int32) (a3 : Int32) (a4 : Int32) : Option Int32 :=
  pl ((a4 ||| ((1 : Int32) <<< (a3 &&& 31))) : Int32) (fun x5_1 =>
  if x5_1 = a4 then
    some (0 : Int32)
  else
    (f_X4_at a1_size a1_cells a2 a3).bind (fun r_3 =>
    if r_3 = 0 then
      some (0 : Int32)
    else
      (f_X2_of t_values x5_1).bind (fun r_6 =>
      some r_6)))
set_option maxHeartbeats 4000000 in
set_option maxRecDepth 100000 in
theorem k_X2_countThrough {p : Program} {l : Launch} {e : Env} {s : State} {m : MethodId} {args : Array Value} {below : List Frame} {meth : Method} {c : Code} {Q : State → Prop} {A0 : Nat → Prop} {H0 : Heap} (C : CallFix p m c cX2_countThrough 6 s args wsX2_countThrough RX2) (G : GT) (hK : gK G s) (hA : ∀ q : Nat, H0.size ≤ q → A0 q) (q_t q_t_values q_a1 q_a1_cells : Nat) (t_values : Nat → Int32) (a1_size : Int32) (a1_cells : Nat → Int32) (a2 : Int32) (a3 : Int32) (a4 : Int32) (r : Int32) (h : f_X2_countThrough t_values a1_size a1_cells a2 a3 a4 = some r) (KR : ∀ (H : Heap) (locs : List Loc) (ls : Array Slot) (pc : Nat), decode cX2_countThrough pc = .ok (.ireturn, 1) → va_P G.1 vwCl [(q_t, .inr (1, [.ref q_t_values])), (q_t_values, .inl (G.2 0, 128, .inl t_values)), (q_a1, .inr (3, [.ref q_a1_cells, .int a1_size])), (q_a1_cells, .inl (G.2 0, 49, .inl a1_cells))] H → va_D A0 [(q_t, .inr (1, [.ref q_t_values])), (q_t_values, .inl (G.2 0, 128, .inl t_values)), (q_a1, .inr (3, [.ref q_a1_cells, .int a1_size])), (q_a1_cells, .inl (G.2 0, 49, .inl a1_cells))] → va_S A0 H0 H locs → W p l e ({ frames := 2, cells := 0, slots := 0, locals := 43 } : Room) s m args below meth c H locs 0 0 Q (F0 m pc ls [.int r])) : ∀ (H : Heap) (locs : List Loc) (ls : Array Slot), va_P G.1 vwCl [(q_t, .inr (1, [.ref q_t_values])), (q_t_values, .inl (G.2 0, 128, .inl t_values)), (q_a1, .inr (3, [.ref q_a1_cells, .int a1_size])), (q_a1_cells, .inl (G.2 0, 49, .inl a1_cells))] H → va_D A0 [(q_t, .inr (1, [.ref q_t_values])), (q_t_values, .inl (G.2 0, 128, .inl t_values)), (q_a1, .inr (3, [.ref q_a1_cells, .int a1_size])), (q_a1_cells, .inl (G.2 0, 49, .inl a1_cells))] → va_S A0 H0 H locs → lv_has ls 6 [(0, .ref q_t), (1, .ref q_a1), (2, .int a2), (3, .int a3), (4, .int a4)] → W p l e ({ frames := 2, cells := 0, slots := 0, locals := 43 } : Room) s m args below meth c H locs 0 0 Q (F0 m 0 ls []) := by
  obtain ⟨hx, hb, hml, hown, hts⟩ := C
  intro H locs ls hP hD hS hl
  rw [f_X2_countThrough] at h
  refine lv_iload hx hb dX2_countThrough_0 (lv_at hl 4 rfl) ?_
  refine lv_iconst (v := 1) hx hb dX2_countThrough_2 (by decide) ?_
  refine lv_iload_n hx hb dX2_countThrough_3 rfl (lv_at hl 3 rfl) ?_
  refine lv_ishl hx hb dX2_countThrough_4 ?_
  refine lv_ior hx hb dX2_countThrough_5 ?_
  refine lv_topi (fun x5_1 ex5_1 => ?_)
  replace h := pl_v h ex5_1
  refine lv_istore (lv' := [(5, .int x5_1), (0, .ref q_t), (1, .ref q_a1), (2, .int a2), (3, .int a3), (4, .int a4)]) hx hb dX2_countThrough_6 hl (by decide) rfl (fun ls hl => ?_)
  refine lv_iload hx hb dX2_countThrough_8 (lv_at hl 0 rfl) ?_
  refine lv_iload hx hb dX2_countThrough_10 (lv_at hl 5 rfl) ?_
  refine lv_icmp_eq (tgt := 24) hx hb dX2_countThrough_12 (by decide) (fun c_2 => ?_) (fun c_2 => ?_)
  · replace h := it_t h c_2
    refine lv_iconst (v := 0) hx hb dX2_countThrough_24 (by decide) ?_
    refine lv_goto (tgt := 34) hx hb dX2_countThrough_25 (by decide) ?_
    obtain rfl := sm1 h
    exact KR H locs ls 34 dX2_countThrough_34 hP hD hS
  · replace h := it_f h c_2
    refine lv_aload_n hx hb dX2_countThrough_15 rfl (lv_at hl 2 rfl) ?_
    refine lv_iload_n hx hb dX2_countThrough_16 rfl (lv_at hl 3 rfl) ?_
    refine lv_iload_n hx hb dX2_countThrough_17 rfl (lv_at hl 4 rfl) ?_
    obtain ⟨r_3, hf_4, h⟩ := bd_ok h
    refine ck_Vi (rest := []) (wn := [(q_t, .inr (1, [.ref q_t_values])), (q_t_values, .inl (G.2 0, 128, .inl t_values)), (q_a1, .inr (3, [.ref q_a1_cells, .int a1_size])), (q_a1_cells, .inl (G.2 0, 49, .inl a1_cells))]) ⟨hx, hb, hml, hown, hts⟩ hK hP hD hS hA [2, 3] [0, 1] [0, 1, 2, 3] (c_X4_at l G q_a1 q_a1_cells _ a1_size a1_cells a2 a3 _ hf_4) (cwV 2 hts gX2_countThrough_X4_at rfl rfl rfl (by decide +kernel) ⟨Nat.le_of_ble_eq_true rfl, Nat.le_of_ble_eq_true rfl⟩) rfl rfl rfl rfl rfl rfl (by decide) rfl rfl rfl hl.1 rfl (Nat.le_of_ble_eq_true rfl) dX2_countThrough_18 ⟨Nat.zero_le _, Nat.zero_le _⟩ (fun H locs hP hD hS => ?_)
    refine lv_if_ne (tgt := 28) hx hb dX2_countThrough_21 (by decide) (fun c_5 => ?_) (fun c_5 => ?_)
    · replace h := it_f h c_5
      refine lv_aload_n hx hb dX2_countThrough_28 rfl (lv_at hl 1 rfl) ?_
      refine lv_iload hx hb dX2_countThrough_29 (lv_at hl 0 rfl) ?_
      obtain ⟨r_6, hf_7, h⟩ := bd_ok h
      refine ck_Vi (rest := []) (wn := [(q_t, .inr (1, [.ref q_t_values])), (q_t_values, .inl (G.2 0, 128, .inl t_values)), (q_a1, .inr (3, [.ref q_a1_cells, .int a1_size])), (q_a1_cells, .inl (G.2 0, 49, .inl a1_cells))]) ⟨hx, hb, hml, hown, hts⟩ hK hP hD hS hA [0, 1] [2, 3] [2, 3, 0, 1] (c_X2_of l G q_t q_t_values _ t_values x5_1 _ hf_7) (cwV 1 hts gX2_countThrough_X2_of rfl rfl rfl (by decide +kernel) ⟨Nat.le_of_ble_eq_true rfl, Nat.le_of_ble_eq_true rfl⟩) rfl rfl rfl rfl rfl rfl (by decide) rfl rfl rfl hl.1 rfl (Nat.le_of_ble_eq_true rfl) dX2_countThrough_31 ⟨Nat.zero_le _, Nat.zero_le _⟩ (fun H locs hP hD hS => ?_)
      obtain rfl := sm1 h
      exact KR H locs ls 34 dX2_countThrough_34 hP hD hS
    · replace h := it_t h c_5
      refine lv_iconst (v := 0) hx hb dX2_countThrough_24 (by decide) ?_
      refine lv_goto (tgt := 34) hx hb dX2_countThrough_25 (by decide) ?_
      obtain rfl := sm1 h
      exact KR H locs ls 34 dX2_countThrough_34 hP hD hS
set_option maxHeartbeats 4000000 in
set_option maxRecDepth 100000 in
theorem c_X2_countThrough (l : Launch) (G : GT) (q_t q_t_values q_a1 q_a1_cells : Nat) (sz : Nat) (t_values : Nat → Int32) (a1_size : Int32) (a1_cells : Nat → Int32) (a2 : Int32) (a3 : Int32) (a4 : Int32) (r : Int32) (h : f_X2_countThrough t_values a1_size a1_cells a2 a3 a4 = some r) : Met l yX2_countThrough wsX2_countThrough ({ frames := 2, cells := 0, slots := 0, locals := 43 } : Room) (va_Pc [.ref q_t, .ref q_a1, .int a2, .int a3, .int a4] (pcW G [(q_t, .inr (1, [.ref q_t_values])), (q_t_values, .inl (G.2 0, 128, .inl t_values)), (q_a1, .inr (3, [.ref q_a1_cells, .int a1_size])), (q_a1_cells, .inl (G.2 0, 49, .inl a1_cells))] sz)) (va_Qi (fun r9 (_ : Unit) => r9 = r) (fun _ t => atW G (va_A [(q_t, .inr (1, [.ref q_t_values])), (q_t_values, .inl (G.2 0, 128, .inl t_values)), (q_a1, .inr (3, [.ref q_a1_cells, .int a1_size])), (q_a1_cells, .inl (G.2 0, 49, .inl a1_cells))] sz) [(q_t, .inr (1, [.ref q_t_values])), (q_t_values, .inl (G.2 0, 128, .inl t_values)), (q_a1, .inr (3, [.ref q_a1_cells, .int a1_size])), (q_a1_cells, .inl (G.2 0, 49, .inl a1_cells))] t) (va_A [(q_t, .inr (1, [.ref q_t_values])), (q_t_values, .inl (G.2 0, 128, .inl t_values)), (q_a1, .inr (3, [.ref q_a1_cells, .int a1_size])), (q_a1_cells, .inl (G.2 0, 49, .inl a1_cells))] sz)) 0 0 (va_A [(q_t, .inr (1, [.ref q_t_values])), (q_t_values, .inl (G.2 0, 128, .inl t_values)), (q_a1, .inr (3, [.ref q_a1_cells, .int a1_size])), (q_a1_cells, .inl (G.2 0, 49, .inl a1_cells))] sz) := by
  refine Met.ofW (cc := cX2_countThrough) (maxL := 6) (ret := (some .int)) (by decide) rfl ?_
  intro p e s m args below meth c s₁ B hml hv
  obtain ⟨rfl, hsz, hP, hK, hD0⟩ := hv
  subst hsz
  have hD := hD0.self (sz := s.heap.size)
  generalize hAe : va_A [(q_t, .inr (1, [.ref q_t_values])), (q_t_values, .inl (G.2 0, 128, .inl t_values)), (q_a1, .inr (3, [.ref q_a1_cells, .int a1_size])), (q_a1_cells, .inl (G.2 0, 49, .inl a1_cells))] s.heap.size = A at hD ⊢
  have hA : ∀ q : Nat, s.heap.size ≤ q → A q := fun q h => by rw [← hAe]; exact Or.inr h
  have hl := lv_entry ([.ref q_t, .ref q_a1, .int a2, .int a3, .int a4]) (n := 6) (Nat.le_of_ble_eq_true rfl)
  rw [lg_entry_eq]
  refine k_X2_countThrough ⟨B.exec, B.bytes, hml, findClass_of_methodNamed B.named, atoms_spec (ws := wsX2_countThrough) B.pre⟩ G hK hA q_t q_t_values q_a1 q_a1_cells _ _ _ _ _ _ _ h ?_ _ _ _ hP hD va_S.rf hl
  intro H locs ls pc hd hP hD hS
  exact W.iret B.exec B.bytes B.returns (fun t ht hW => ⟨⟨r, (), rfl, rfl, by rw [ht]; exact hP, hD⟩, hS.F ht⟩) hS.2.2 hd B.notSynchronized
def f_X2_countWhole_L2 (x3 : Int32) (x4 : Int32) (t_values : Nat → Int32) (a1_size : Int32) (a1_cells : Nat → Int32) : (Int32 × Int32) → Option ((Int32 × Int32) ⊕ Int32)
  | (x5, x6) =>
    (f_X4_size a1_size).bind (fun r_9 =>
    if r_9 ≤ x6 then
      some (.inr x5)
    else
      (f_X2_countThrough t_values a1_size a1_cells x4 x6 x3).bind (fun r_12 =>
      pl ((x5 + r_12) : Int32) (fun x5_14 =>
      pl ((x6 + (1 : Int32)) : Int32) (fun x6_15 =>
      some (.inl (x5_14, x6_15))))))
def f_X2_countWhole_L1 (a1_size : Int32) (a1_cells : Nat → Int32) : (Int32 × (Nat → Int32)) → Option ((Int32 × (Nat → Int32)) ⊕ (Nat → Int32))
  | (x3, t_values) =>
    if x3 < 0 then
      some (.inr t_values)
    else
      (f_J6_bitCount_0f7a4 x3).bind (fun r_7 =>
      (lpN (f_X2_countWhole_L2 x3 r_7 t_values a1_size a1_cells) FU ((0 : Int32), (0 : Int32))).bind (fun x5_16 =>
      (f_X2_put t_values x3 x5_16).bind (fun t_values_19 =>
      pl ((x3 + (-1 : Int32)) : Int32) (fun x3_21 =>
      some (.inl (x3_21, t_values_19))))))
def f_X2_countWhole (t_values : Nat → Int32) (a1_size : Int32) (a1_cells : Nat → Int32) : Option (Nat → Int32) :=
  (f_X4_allLines a1_size).bind (fun r_1 =>
  (f_X2_put t_values r_1 (1 : Int32)).bind (fun t_values_3 =>
  pl ((r_1 - (1 : Int32)) : Int32) (fun x3_5 =>
  (lpN (f_X2_countWhole_L1 a1_size a1_cells) FU (x3_5, t_values_3)).bind (fun t_values_22 =>
  some t_values_22))))
set_option maxHeartbeats 4000000 in
set_option maxRecDepth 100000 in
theorem l_X2_countWhole_2 {p : Program} {l : Launch} {e : Env} {s : State} {m : MethodId} {args : Array Value} {below : List Frame} {meth : Method} {c : Code} {Q : State → Prop} {A0 : Nat → Prop} {H0 : Heap} (C : CallFix p m c cX2_countWhole 7 s args wsX2_countWhole RX2) (G : GT) (hK : gK G s) (hA : ∀ q : Nat, H0.size ≤ q → A0 q) (q_t q_t_values q_a1 q_a1_cells : Nat) (x3 : Int32) (x4 : Int32) (t_values : Nat → Int32) (a1_size : Int32) (a1_cells : Nat → Int32) (E_x5 : Int32) (K : ∀ (H : Heap) (locs : List Loc) (ls : Array Slot), va_P G.1 vwCl [(q_t, .inr (1, [.ref q_t_values])), (q_t_values, .inl (G.2 0, 128, .inl t_values)), (q_a1, .inr (3, [.ref q_a1_cells, .int a1_size])), (q_a1_cells, .inl (G.2 0, 49, .inl a1_cells))] H → va_D A0 [(q_t, .inr (1, [.ref q_t_values])), (q_t_values, .inl (G.2 0, 128, .inl t_values)), (q_a1, .inr (3, [.ref q_a1_cells, .int a1_size])), (q_a1_cells, .inl (G.2 0, 49, .inl a1_cells))] → va_S A0 H0 H locs → lv_has ls 7 [(0, .ref q_t), (1, .ref q_a1), (3, .int x3), (5, .int E_x5)] → W p l e ({ frames := 3, cells := 0, slots := 0, locals := 68 } : Room) s m args below meth c H locs 0 0 Q (F0 m 61 ls [])) : ∀ (n : Nat) (x5 : Int32) (x6 : Int32), lpN (f_X2_countWhole_L2 x3 x4 t_values a1_size a1_cells) n (x5, x6) = some E_x5 → ∀ (H : Heap) (locs : List Loc) (ls : Array Slot), va_P G.1 vwCl [(q_t, .inr (1, [.ref q_t_values])), (q_t_values, .inl (G.2 0, 128, .inl t_values)), (q_a1, .inr (3, [.ref q_a1_cells, .int a1_size])), (q_a1_cells, .inl (G.2 0, 49, .inl a1_cells))] H → va_D A0 [(q_t, .inr (1, [.ref q_t_values])), (q_t_values, .inl (G.2 0, 128, .inl t_values)), (q_a1, .inr (3, [.ref q_a1_cells, .int a1_size])), (q_a1_cells, .inl (G.2 0, 49, .inl a1_cells))] → va_S A0 H0 H locs → lv_has ls 7 [(0, .ref q_t), (1, .ref q_a1), (3, .int x3), (4, .int x4), (5, .int x5), (6, .int x6)] → W p l e ({ frames := 3, cells := 0, slots := 0, locals := 68 } : Room) s m args below meth c H locs 0 0 Q (F0 m 31 ls []) := by
  obtain ⟨hx, hb, hml, hown, hts⟩ := C
  intro n
  induction n with
  | zero => intro x5 x6 h; exact absurd h (fun h => lp_0 h)
  | succ n ih =>
    intro x5 x6 h H locs ls hP hD hS hl
    obtain ⟨y, h, hk⟩ := lp_s h
    rw [f_X2_countWhole_L2] at h
    refine lv_iload hx hb dX2_countWhole_31 (lv_at hl 5 rfl) ?_
    refine lv_aload_n hx hb dX2_countWhole_33 rfl (lv_at hl 1 rfl) ?_
    obtain ⟨r_9, hf_10, h⟩ := bd_ok h
    refine ck_Vi (rest := [.int x6]) (wn := [(q_t, .inr (1, [.ref q_t_values])), (q_t_values, .inl (G.2 0, 128, .inl t_values)), (q_a1, .inr (3, [.ref q_a1_cells, .int a1_size])), (q_a1_cells, .inl (G.2 0, 49, .inl a1_cells))]) ⟨hx, hb, hml, hown, hts⟩ hK hP hD hS hA [2] [0, 1, 3] [0, 1, 3, 2] (c_X4_size l G q_a1 q_a1_cells _ a1_size _ hf_10) (cwV 0 hts gX2_countWhole_X4_size rfl rfl rfl (by decide +kernel) ⟨Nat.le_of_ble_eq_true rfl, Nat.le_of_ble_eq_true rfl⟩) rfl rfl rfl rfl rfl rfl (by decide) rfl rfl rfl hl.1 rfl (Nat.le_of_ble_eq_true rfl) dX2_countWhole_34 ⟨Nat.zero_le _, Nat.zero_le _⟩ (fun H locs hP hD hS => ?_)
    refine lv_icmp_ge (tgt := 61) hx hb dX2_countWhole_37 (by decide) (fun c_11 => ?_) (fun c_11 => ?_)
    · replace h := it_t h c_11
      obtain rfl := sm1 h
      obtain rfl := sm1 hk
      exact K H locs ls hP hD hS (lv_sub hl [0, 1, 2, 4] rfl)
    · replace h := it_f h c_11
      refine lv_iload hx hb dX2_countWhole_40 (lv_at hl 4 rfl) ?_
      refine lv_aload_n hx hb dX2_countWhole_42 rfl (lv_at hl 0 rfl) ?_
      refine lv_aload_n hx hb dX2_countWhole_43 rfl (lv_at hl 1 rfl) ?_
      refine lv_iload hx hb dX2_countWhole_44 (lv_at hl 3 rfl) ?_
      refine lv_iload hx hb dX2_countWhole_46 (lv_at hl 5 rfl) ?_
      refine lv_iload_n hx hb dX2_countWhole_48 rfl (lv_at hl 2 rfl) ?_
      obtain ⟨r_12, hf_13, h⟩ := bd_ok h
      refine ck_Vi (rest := [.int x5]) (wn := [(q_t, .inr (1, [.ref q_t_values])), (q_t_values, .inl (G.2 0, 128, .inl t_values)), (q_a1, .inr (3, [.ref q_a1_cells, .int a1_size])), (q_a1_cells, .inl (G.2 0, 49, .inl a1_cells))]) ⟨hx, hb, hml, hown, hts⟩ hK hP hD hS hA [0, 1, 2, 3] [] [0, 1, 2, 3] (c_X2_countThrough l G q_t q_t_values q_a1 q_a1_cells _ t_values a1_size a1_cells x4 x6 x3 _ hf_13) (cwV 4 hts gX2_countWhole_X2_countThrough rfl rfl rfl (by decide +kernel) ⟨Nat.le_of_ble_eq_true rfl, Nat.le_of_ble_eq_true rfl⟩) rfl rfl rfl rfl rfl rfl (by decide) rfl rfl rfl hl.1 rfl (Nat.le_of_ble_eq_true rfl) dX2_countWhole_49 ⟨Nat.zero_le _, Nat.zero_le _⟩ (fun H locs hP hD hS => ?_)
      refine lv_iadd hx hb dX2_countWhole_52 ?_
      refine lv_topi (fun x5_14 ex5_14 => ?_)
      replace h := pl_v h ex5_14
      refine lv_istore (lv' := [(5, .int x5_14), (0, .ref q_t), (1, .ref q_a1), (3, .int x3), (4, .int x4), (6, .int x6)]) hx hb dX2_countWhole_53 hl (by decide) rfl (fun ls hl => ?_)
      obtain ⟨x6_15, ex6_15, h⟩ := pl_ok h
      refine lv_iinc (v := x6_15) (lv' := [(6, .int x6_15), (5, .int x5_14), (0, .ref q_t), (1, .ref q_a1), (3, .int x3), (4, .int x4)]) hx hb dX2_countWhole_55 hl (k := 5) rfl (by rw [ex6_15]; rfl) (by decide) rfl (fun ls hl => ?_)
      refine lv_goto (tgt := 31) hx hb dX2_countWhole_58 (by decide) ?_
      obtain rfl := sm1 h
      exact ih x5_14 x6_15 hk H locs ls hP hD hS (lv_sub hl [2, 3, 4, 5, 1, 0] rfl)
set_option maxHeartbeats 4000000 in
set_option maxRecDepth 100000 in
theorem l_X2_countWhole_1 {p : Program} {l : Launch} {e : Env} {s : State} {m : MethodId} {args : Array Value} {below : List Frame} {meth : Method} {c : Code} {Q : State → Prop} {A0 : Nat → Prop} {H0 : Heap} (C : CallFix p m c cX2_countWhole 7 s args wsX2_countWhole RX2) (G : GT) (hK : gK G s) (hA : ∀ q : Nat, H0.size ≤ q → A0 q) (q_t q_t_values q_a1 q_a1_cells : Nat) (a1_size : Int32) (a1_cells : Nat → Int32) (E_t_values : Nat → Int32) (K : ∀ (H : Heap) (locs : List Loc) (ls : Array Slot), va_P G.1 vwCl [(q_t, .inr (1, [.ref q_t_values])), (q_t_values, .inl (G.2 0, 128, .inl E_t_values)), (q_a1, .inr (3, [.ref q_a1_cells, .int a1_size])), (q_a1_cells, .inl (G.2 0, 49, .inl a1_cells))] H → va_D A0 [(q_t, .inr (1, [.ref q_t_values])), (q_t_values, .inl (G.2 0, 128, .inl E_t_values)), (q_a1, .inr (3, [.ref q_a1_cells, .int a1_size])), (q_a1_cells, .inl (G.2 0, 49, .inl a1_cells))] → va_S A0 H0 H locs → lv_has ls 7 [] → W p l e ({ frames := 3, cells := 0, slots := 0, locals := 68 } : Room) s m args below meth c H locs 0 0 Q (F0 m 74 ls [])) : ∀ (n : Nat) (x3 : Int32) (t_values : Nat → Int32), lpN (f_X2_countWhole_L1 a1_size a1_cells) n (x3, t_values) = some E_t_values → ∀ (H : Heap) (locs : List Loc) (ls : Array Slot), va_P G.1 vwCl [(q_t, .inr (1, [.ref q_t_values])), (q_t_values, .inl (G.2 0, 128, .inl t_values)), (q_a1, .inr (3, [.ref q_a1_cells, .int a1_size])), (q_a1_cells, .inl (G.2 0, 49, .inl a1_cells))] H → va_D A0 [(q_t, .inr (1, [.ref q_t_values])), (q_t_values, .inl (G.2 0, 128, .inl t_values)), (q_a1, .inr (3, [.ref q_a1_cells, .int a1_size])), (q_a1_cells, .inl (G.2 0, 49, .inl a1_cells))] → va_S A0 H0 H locs → lv_has ls 7 [(0, .ref q_t), (1, .ref q_a1), (3, .int x3)] → W p l e ({ frames := 3, cells := 0, slots := 0, locals := 68 } : Room) s m args below meth c H locs 0 0 Q (F0 m 15 ls []) := by
  obtain ⟨hx, hb, hml, hown, hts⟩ := C
  intro n
  induction n with
  | zero => intro x3 t_values h; exact absurd h (fun h => lp_0 h)
  | succ n ih =>
    intro x3 t_values h H locs ls hP hD hS hl
    obtain ⟨y, h, hk⟩ := lp_s h
    rw [f_X2_countWhole_L1] at h
    refine lv_iload_n hx hb dX2_countWhole_15 rfl (lv_at hl 2 rfl) ?_
    refine lv_if_lt (tgt := 74) hx hb dX2_countWhole_16 (by decide) (fun c_6 => ?_) (fun c_6 => ?_)
    · replace h := it_t h c_6
      obtain rfl := sm1 h
      obtain rfl := sm1 hk
      exact K H locs ls hP hD hS (lv_sub hl [] rfl)
    · replace h := it_f h c_6
      refine lv_iload_n hx hb dX2_countWhole_19 rfl (lv_at hl 2 rfl) ?_
      obtain ⟨r_7, hf_8, h⟩ := bd_ok h
      refine ck_Si (rest := []) (wn := [(q_t, .inr (1, [.ref q_t_values])), (q_t_values, .inl (G.2 0, 128, .inl t_values)), (q_a1, .inr (3, [.ref q_a1_cells, .int a1_size])), (q_a1_cells, .inl (G.2 0, 49, .inl a1_cells))]) ⟨hx, hb, hml, hown, hts⟩ hK hP hD hS hA [] [0, 1, 2, 3] [0, 1, 2, 3] (c_J6_bitCount_0f7a4 l G _ x3 _ hf_8) (va_cwS 1 hts gX2_countWhole_J6_bitCount_0f7a4 rfl rfl rfl (by decide +kernel) ⟨Nat.le_of_ble_eq_true rfl, Nat.le_of_ble_eq_true rfl⟩) rfl rfl rfl rfl (by decide) rfl rfl rfl hl.1 rfl (Nat.le_of_ble_eq_true rfl) dX2_countWhole_20 ⟨Nat.zero_le _, Nat.zero_le _⟩ (fun H locs hP hD hS => ?_)
      refine lv_istore (lv' := [(4, .int r_7), (0, .ref q_t), (1, .ref q_a1), (3, .int x3)]) hx hb dX2_countWhole_23 hl (by decide) rfl (fun ls hl => ?_)
      refine lv_iconst (v := 0) hx hb dX2_countWhole_25 (by decide) ?_
      refine lv_istore (lv' := [(5, .int (0 : Int32)), (4, .int r_7), (0, .ref q_t), (1, .ref q_a1), (3, .int x3)]) hx hb dX2_countWhole_26 hl (by decide) rfl (fun ls hl => ?_)
      refine lv_iconst (v := 0) hx hb dX2_countWhole_28 (by decide) ?_
      refine lv_istore (lv' := [(6, .int (0 : Int32)), (5, .int (0 : Int32)), (4, .int r_7), (0, .ref q_t), (1, .ref q_a1), (3, .int x3)]) hx hb dX2_countWhole_29 hl (by decide) rfl (fun ls hl => ?_)
      obtain ⟨x5_16, hz_18, h⟩ := bd_ok h
      refine l_X2_countWhole_2 ⟨hx, hb, hml, hown, hts⟩ G hK hA q_t q_t_values q_a1 q_a1_cells x3 r_7 t_values a1_size a1_cells x5_16 ?_ FU (0 : Int32) (0 : Int32) hz_18 H locs ls hP hD hS (lv_sub hl [3, 4, 5, 2, 1, 0] rfl)
      intro H locs ls hP hD hS hl
      refine lv_aload_n hx hb dX2_countWhole_61 rfl (lv_at hl 0 rfl) ?_
      refine lv_iload_n hx hb dX2_countWhole_62 rfl (lv_at hl 2 rfl) ?_
      refine lv_iload hx hb dX2_countWhole_63 (lv_at hl 3 rfl) ?_
      obtain ⟨t_values_19, hf_20, h⟩ := bd_ok h
      refine ck_Vv (rest := []) (wn := [(q_t, .inr (1, [.ref q_t_values])), (q_t_values, .inl (G.2 0, 128, .inl t_values_19)), (q_a1, .inr (3, [.ref q_a1_cells, .int a1_size])), (q_a1_cells, .inl (G.2 0, 49, .inl a1_cells))]) ⟨hx, hb, hml, hown, hts⟩ hK hP hD hS hA [0, 1] [2, 3] [2, 3, 0, 1] (c_X2_put l G q_t q_t_values _ t_values x3 x5_16 _ hf_20) (cwV 2 hts gX2_countWhole_X2_put rfl rfl rfl (by decide +kernel) ⟨Nat.le_of_ble_eq_true rfl, Nat.le_of_ble_eq_true rfl⟩) rfl rfl rfl rfl rfl rfl (by decide) rfl rfl rfl hl.1 rfl (Nat.le_of_ble_eq_true rfl) dX2_countWhole_65 ⟨Nat.zero_le _, Nat.zero_le _⟩ (fun H locs hP hD hS => ?_)
      obtain ⟨x3_21, ex3_21, h⟩ := pl_ok h
      refine lv_iinc (v := x3_21) (lv' := [(3, .int x3_21), (0, .ref q_t), (1, .ref q_a1), (5, .int x5_16)]) hx hb dX2_countWhole_68 hl (k := 2) rfl (by rw [ex3_21]; rfl) (by decide) rfl (fun ls hl => ?_)
      refine lv_goto (tgt := 15) hx hb dX2_countWhole_71 (by decide) ?_
      obtain rfl := sm1 h
      exact ih x3_21 t_values_19 hk H locs ls hP hD hS (lv_sub hl [1, 2, 0] rfl)
set_option maxHeartbeats 4000000 in
set_option maxRecDepth 100000 in
theorem k_X2_countWhole {p : Program} {l : Launch} {e : Env} {s : State} {m : MethodId} {args : Array Value} {below : List Frame} {meth : Method} {c : Code} {Q : State → Prop} {A0 : Nat → Prop} {H0 : Heap} (C : CallFix p m c cX2_countWhole 7 s args wsX2_countWhole RX2) (G : GT) (hK : gK G s) (hA : ∀ q : Nat, H0.size ≤ q → A0 q) (q_t q_t_values q_a1 q_a1_cells : Nat) (t_values : Nat → Int32) (a1_size : Int32) (a1_cells : Nat → Int32) (o_t_values : Nat → Int32) (h : f_X2_countWhole t_values a1_size a1_cells = some o_t_values) (KR : ∀ (H : Heap) (locs : List Loc) (ls : Array Slot) (pc : Nat), decode cX2_countWhole pc = .ok (.return_, 1) → va_P G.1 vwCl [(q_t, .inr (1, [.ref q_t_values])), (q_t_values, .inl (G.2 0, 128, .inl o_t_values)), (q_a1, .inr (3, [.ref q_a1_cells, .int a1_size])), (q_a1_cells, .inl (G.2 0, 49, .inl a1_cells))] H → va_D A0 [(q_t, .inr (1, [.ref q_t_values])), (q_t_values, .inl (G.2 0, 128, .inl o_t_values)), (q_a1, .inr (3, [.ref q_a1_cells, .int a1_size])), (q_a1_cells, .inl (G.2 0, 49, .inl a1_cells))] → va_S A0 H0 H locs → W p l e ({ frames := 3, cells := 0, slots := 0, locals := 68 } : Room) s m args below meth c H locs 0 0 Q (F0 m pc ls [])) : ∀ (H : Heap) (locs : List Loc) (ls : Array Slot), va_P G.1 vwCl [(q_t, .inr (1, [.ref q_t_values])), (q_t_values, .inl (G.2 0, 128, .inl t_values)), (q_a1, .inr (3, [.ref q_a1_cells, .int a1_size])), (q_a1_cells, .inl (G.2 0, 49, .inl a1_cells))] H → va_D A0 [(q_t, .inr (1, [.ref q_t_values])), (q_t_values, .inl (G.2 0, 128, .inl t_values)), (q_a1, .inr (3, [.ref q_a1_cells, .int a1_size])), (q_a1_cells, .inl (G.2 0, 49, .inl a1_cells))] → va_S A0 H0 H locs → lv_has ls 7 [(0, .ref q_t), (1, .ref q_a1)] → W p l e ({ frames := 3, cells := 0, slots := 0, locals := 68 } : Room) s m args below meth c H locs 0 0 Q (F0 m 0 ls []) := by
  obtain ⟨hx, hb, hml, hown, hts⟩ := C
  intro H locs ls hP hD hS hl
  rw [f_X2_countWhole] at h
  refine lv_aload_n hx hb dX2_countWhole_0 rfl (lv_at hl 1 rfl) ?_
  obtain ⟨r_1, hf_2, h⟩ := bd_ok h
  refine ck_Vi (rest := []) (wn := [(q_t, .inr (1, [.ref q_t_values])), (q_t_values, .inl (G.2 0, 128, .inl t_values)), (q_a1, .inr (3, [.ref q_a1_cells, .int a1_size])), (q_a1_cells, .inl (G.2 0, 49, .inl a1_cells))]) ⟨hx, hb, hml, hown, hts⟩ hK hP hD hS hA [2] [0, 1, 3] [0, 1, 3, 2] (c_X4_allLines l G q_a1 q_a1_cells _ a1_size _ hf_2) (cwV 0 hts gX2_countWhole_X4_allLines rfl rfl rfl (by decide +kernel) ⟨Nat.le_of_ble_eq_true rfl, Nat.le_of_ble_eq_true rfl⟩) rfl rfl rfl rfl rfl rfl (by decide) rfl rfl rfl hl.1 rfl (Nat.le_of_ble_eq_true rfl) dX2_countWhole_1 ⟨Nat.zero_le _, Nat.zero_le _⟩ (fun H locs hP hD hS => ?_)
  refine lv_istore_n (lv' := [(2, .int r_1), (0, .ref q_t), (1, .ref q_a1)]) hx hb dX2_countWhole_4 rfl hl (by decide) rfl (fun ls hl => ?_)
  refine lv_aload_n hx hb dX2_countWhole_5 rfl (lv_at hl 1 rfl) ?_
  refine lv_iload_n hx hb dX2_countWhole_6 rfl (lv_at hl 0 rfl) ?_
  refine lv_iconst (v := 1) hx hb dX2_countWhole_7 (by decide) ?_
  obtain ⟨t_values_3, hf_4, h⟩ := bd_ok h
  refine ck_Vv (rest := []) (wn := [(q_t, .inr (1, [.ref q_t_values])), (q_t_values, .inl (G.2 0, 128, .inl t_values_3)), (q_a1, .inr (3, [.ref q_a1_cells, .int a1_size])), (q_a1_cells, .inl (G.2 0, 49, .inl a1_cells))]) ⟨hx, hb, hml, hown, hts⟩ hK hP hD hS hA [0, 1] [2, 3] [2, 3, 0, 1] (c_X2_put l G q_t q_t_values _ t_values r_1 (1 : Int32) _ hf_4) (cwV 2 hts gX2_countWhole_X2_put rfl rfl rfl (by decide +kernel) ⟨Nat.le_of_ble_eq_true rfl, Nat.le_of_ble_eq_true rfl⟩) rfl rfl rfl rfl rfl rfl (by decide) rfl rfl rfl hl.1 rfl (Nat.le_of_ble_eq_true rfl) dX2_countWhole_8 ⟨Nat.zero_le _, Nat.zero_le _⟩ (fun H locs hP hD hS => ?_)
  refine lv_iload_n hx hb dX2_countWhole_11 rfl (lv_at hl 0 rfl) ?_
  refine lv_iconst (v := 1) hx hb dX2_countWhole_12 (by decide) ?_
  refine lv_isub hx hb dX2_countWhole_13 ?_
  refine lv_topi (fun x3_5 ex3_5 => ?_)
  replace h := pl_v h ex3_5
  refine lv_istore_n (lv' := [(3, .int x3_5), (2, .int r_1), (0, .ref q_t), (1, .ref q_a1)]) hx hb dX2_countWhole_14 rfl hl (by decide) rfl (fun ls hl => ?_)
  obtain ⟨t_values_22, hz_24, h⟩ := bd_ok h
  refine l_X2_countWhole_1 ⟨hx, hb, hml, hown, hts⟩ G hK hA q_t q_t_values q_a1 q_a1_cells a1_size a1_cells t_values_22 ?_ FU x3_5 t_values_3 hz_24 H locs ls hP hD hS (lv_sub hl [2, 3, 0] rfl)
  intro H locs ls hP hD hS hl
  obtain rfl := sm1 h
  exact KR H locs ls 74 dX2_countWhole_74 hP hD hS
set_option maxHeartbeats 4000000 in
set_option maxRecDepth 100000 in
theorem c_X2_countWhole (l : Launch) (G : GT) (q_t q_t_values q_a1 q_a1_cells : Nat) (sz : Nat) (t_values : Nat → Int32) (a1_size : Int32) (a1_cells : Nat → Int32) (o_t_values : Nat → Int32) (h : f_X2_countWhole t_values a1_size a1_cells = some o_t_values) : Met l yX2_countWhole wsX2_countWhole ({ frames := 3, cells := 0, slots := 0, locals := 68 } : Room) (va_Pc [.ref q_t, .ref q_a1] (pcW G [(q_t, .inr (1, [.ref q_t_values])), (q_t_values, .inl (G.2 0, 128, .inl t_values)), (q_a1, .inr (3, [.ref q_a1_cells, .int a1_size])), (q_a1_cells, .inl (G.2 0, 49, .inl a1_cells))] sz)) (va_Qv (fun (_ : Unit) => True) (fun _ t => atW G (va_A [(q_t, .inr (1, [.ref q_t_values])), (q_t_values, .inl (G.2 0, 128, .inl t_values)), (q_a1, .inr (3, [.ref q_a1_cells, .int a1_size])), (q_a1_cells, .inl (G.2 0, 49, .inl a1_cells))] sz) [(q_t, .inr (1, [.ref q_t_values])), (q_t_values, .inl (G.2 0, 128, .inl o_t_values)), (q_a1, .inr (3, [.ref q_a1_cells, .int a1_size])), (q_a1_cells, .inl (G.2 0, 49, .inl a1_cells))] t) (va_A [(q_t, .inr (1, [.ref q_t_values])), (q_t_values, .inl (G.2 0, 128, .inl t_values)), (q_a1, .inr (3, [.ref q_a1_cells, .int a1_size])), (q_a1_cells, .inl (G.2 0, 49, .inl a1_cells))] sz)) 0 0 (va_A [(q_t, .inr (1, [.ref q_t_values])), (q_t_values, .inl (G.2 0, 128, .inl t_values)), (q_a1, .inr (3, [.ref q_a1_cells, .int a1_size])), (q_a1_cells, .inl (G.2 0, 49, .inl a1_cells))] sz) := by
  refine Met.ofW (cc := cX2_countWhole) (maxL := 7) (ret := none) (by decide) rfl ?_
  intro p e s m args below meth c s₁ B hml hv
  obtain ⟨rfl, hsz, hP, hK, hD0⟩ := hv
  subst hsz
  have hD := hD0.self (sz := s.heap.size)
  generalize hAe : va_A [(q_t, .inr (1, [.ref q_t_values])), (q_t_values, .inl (G.2 0, 128, .inl t_values)), (q_a1, .inr (3, [.ref q_a1_cells, .int a1_size])), (q_a1_cells, .inl (G.2 0, 49, .inl a1_cells))] s.heap.size = A at hD ⊢
  have hA : ∀ q : Nat, s.heap.size ≤ q → A q := fun q h => by rw [← hAe]; exact Or.inr h
  have hl := lv_entry ([.ref q_t, .ref q_a1]) (n := 7) (Nat.le_of_ble_eq_true rfl)
  rw [lg_entry_eq]
  refine k_X2_countWhole ⟨B.exec, B.bytes, hml, findClass_of_methodNamed B.named, atoms_spec (ws := wsX2_countWhole) B.pre⟩ G hK hA q_t q_t_values q_a1 q_a1_cells _ _ _ _ h ?_ _ _ _ hP hD va_S.rf hl
  intro H locs ls pc hd hP hD hS
  exact W.vret B.exec B.bytes B.returns (fun t ht hW => ⟨⟨(), rfl, trivial, by rw [ht]; exact hP, hD⟩, hS.F ht⟩) hS.2.2 hd B.notSynchronized
def f_X2_diagonalOfRank_L2 (x4 : Int32) (x6 : Int32) (t_values : Nat → Int32) (a1_size : Int32) (a1_cells : Nat → Int32) : (Int32 × Int32 × Int32) → Option ((Int32 × Int32 × Int32) ⊕ (Int32 × Int32))
  | (x5, x7, x8) =>
    (f_X4_size a1_size).bind (fun r_6 =>
    if (r_6 - (1 : Int32)) ≤ x7 then
      some (.inr (x5, x7))
    else
      if x5 < x8 then
        some (.inr (x5, x7))
      else
        pl ((x5 - x8) : Int32) (fun x5_10 =>
        pl ((x7 + (1 : Int32)) : Int32) (fun x7_11 =>
        (f_X2_countThrough t_values a1_size a1_cells x6 x7_11 x4).bind (fun r_12 =>
        some (.inl (x5_10, x7_11, r_12))))))
def f_X2_diagonalOfRank_L1 (t_values : Nat → Int32) (a1_size : Int32) (a1_cells : Nat → Int32) : (Int32 × Int32 × Int32 × Int32) → Option ((Int32 × Int32 × Int32 × Int32) ⊕ Int32)
  | (x3, x4, x5, x6) =>
    (f_X4_size a1_size).bind (fun r_1 =>
    if r_1 ≤ x6 then
      some (.inr x3)
    else
      (f_X2_countThrough t_values a1_size a1_cells x6 (0 : Int32) x4).bind (fun r_4 =>
      (lpN (f_X2_diagonalOfRank_L2 x4 x6 t_values a1_size a1_cells) FU (x5, (0 : Int32), r_4)).bind (fun (x5_14, x7_15) =>
      pl (((x3 * (10 : Int32)) + x7_15) : Int32) (fun x3_18 =>
      pl ((x4 ||| ((1 : Int32) <<< (x7_15 &&& 31))) : Int32) (fun x4_19 =>
      pl ((x6 + (1 : Int32)) : Int32) (fun x6_20 =>
      some (.inl (x3_18, x4_19, x5_14, x6_20))))))))
def f_X2_diagonalOfRank (t_values : Nat → Int32) (a1_size : Int32) (a1_cells : Nat → Int32) (a2 : Int32) : Option Int32 :=
  (lpN (f_X2_diagonalOfRank_L1 t_values a1_size a1_cells) FU ((0 : Int32), (0 : Int32), a2, (0 : Int32))).bind (fun x3_21 =>
  some x3_21)
set_option maxHeartbeats 4000000 in
set_option maxRecDepth 100000 in
theorem l_X2_diagonalOfRank_2 {p : Program} {l : Launch} {e : Env} {s : State} {m : MethodId} {args : Array Value} {below : List Frame} {meth : Method} {c : Code} {Q : State → Prop} {A0 : Nat → Prop} {H0 : Heap} (C : CallFix p m c cX2_diagonalOfRank 9 s args wsX2_diagonalOfRank RX2) (G : GT) (hK : gK G s) (hA : ∀ q : Nat, H0.size ≤ q → A0 q) (q_t q_t_values q_a1 q_a1_cells : Nat) (x3 : Int32) (x4 : Int32) (x6 : Int32) (t_values : Nat → Int32) (a1_size : Int32) (a1_cells : Nat → Int32) (E_x5 : Int32) (E_x7 : Int32) (K : ∀ (H : Heap) (locs : List Loc) (ls : Array Slot), va_P G.1 vwCl [(q_t, .inr (1, [.ref q_t_values])), (q_t_values, .inl (G.2 0, 128, .inl t_values)), (q_a1, .inr (3, [.ref q_a1_cells, .int a1_size])), (q_a1_cells, .inl (G.2 0, 49, .inl a1_cells))] H → va_D A0 [(q_t, .inr (1, [.ref q_t_values])), (q_t_values, .inl (G.2 0, 128, .inl t_values)), (q_a1, .inr (3, [.ref q_a1_cells, .int a1_size])), (q_a1_cells, .inl (G.2 0, 49, .inl a1_cells))] → va_S A0 H0 H locs → lv_has ls 9 [(0, .ref q_t), (1, .ref q_a1), (3, .int x3), (4, .int x4), (5, .int E_x5), (6, .int x6), (7, .int E_x7)] → W p l e ({ frames := 3, cells := 0, slots := 0, locals := 68 } : Room) s m args below meth c H locs 0 0 Q (F0 m 80 ls [])) : ∀ (n : Nat) (x5 : Int32) (x7 : Int32) (x8 : Int32), lpN (f_X2_diagonalOfRank_L2 x4 x6 t_values a1_size a1_cells) n (x5, x7, x8) = some (E_x5, E_x7) → ∀ (H : Heap) (locs : List Loc) (ls : Array Slot), va_P G.1 vwCl [(q_t, .inr (1, [.ref q_t_values])), (q_t_values, .inl (G.2 0, 128, .inl t_values)), (q_a1, .inr (3, [.ref q_a1_cells, .int a1_size])), (q_a1_cells, .inl (G.2 0, 49, .inl a1_cells))] H → va_D A0 [(q_t, .inr (1, [.ref q_t_values])), (q_t_values, .inl (G.2 0, 128, .inl t_values)), (q_a1, .inr (3, [.ref q_a1_cells, .int a1_size])), (q_a1_cells, .inl (G.2 0, 49, .inl a1_cells))] → va_S A0 H0 H locs → lv_has ls 9 [(0, .ref q_t), (1, .ref q_a1), (3, .int x3), (4, .int x4), (5, .int x5), (6, .int x6), (7, .int x7), (8, .int x8)] → W p l e ({ frames := 3, cells := 0, slots := 0, locals := 68 } : Room) s m args below meth c H locs 0 0 Q (F0 m 36 ls []) := by
  obtain ⟨hx, hb, hml, hown, hts⟩ := C
  intro n
  induction n with
  | zero => intro x5 x7 x8 h; exact absurd h (fun h => lp_0 h)
  | succ n ih =>
    intro x5 x7 x8 h H locs ls hP hD hS hl
    obtain ⟨y, h, hk⟩ := lp_s h
    rw [f_X2_diagonalOfRank_L2] at h
    refine lv_iload hx hb dX2_diagonalOfRank_36 (lv_at hl 6 rfl) ?_
    refine lv_aload_n hx hb dX2_diagonalOfRank_38 rfl (lv_at hl 1 rfl) ?_
    obtain ⟨r_6, hf_7, h⟩ := bd_ok h
    refine ck_Vi (rest := [.int x7]) (wn := [(q_t, .inr (1, [.ref q_t_values])), (q_t_values, .inl (G.2 0, 128, .inl t_values)), (q_a1, .inr (3, [.ref q_a1_cells, .int a1_size])), (q_a1_cells, .inl (G.2 0, 49, .inl a1_cells))]) ⟨hx, hb, hml, hown, hts⟩ hK hP hD hS hA [2] [0, 1, 3] [0, 1, 3, 2] (c_X4_size l G q_a1 q_a1_cells _ a1_size _ hf_7) (cwV 0 hts gX2_diagonalOfRank_X4_size rfl rfl rfl (by decide +kernel) ⟨Nat.le_of_ble_eq_true rfl, Nat.le_of_ble_eq_true rfl⟩) rfl rfl rfl rfl rfl rfl (by decide) rfl rfl rfl hl.1 rfl (Nat.le_of_ble_eq_true rfl) dX2_diagonalOfRank_39 ⟨Nat.zero_le _, Nat.zero_le _⟩ (fun H locs hP hD hS => ?_)
    refine lv_iconst (v := 1) hx hb dX2_diagonalOfRank_42 (by decide) ?_
    refine lv_isub hx hb dX2_diagonalOfRank_43 ?_
    refine lv_icmp_ge (tgt := 80) hx hb dX2_diagonalOfRank_44 (by decide) (fun c_8 => ?_) (fun c_8 => ?_)
    · replace h := it_t h c_8
      obtain rfl := sm1 h
      obtain ⟨rfl, rfl⟩ := sm2 hk
      exact K H locs ls hP hD hS (lv_sub hl [0, 1, 2, 3, 4, 5, 6] rfl)
    · replace h := it_f h c_8
      refine lv_iload hx hb dX2_diagonalOfRank_47 (lv_at hl 4 rfl) ?_
      refine lv_iload hx hb dX2_diagonalOfRank_49 (lv_at hl 7 rfl) ?_
      refine lv_icmp_lt (tgt := 80) hx hb dX2_diagonalOfRank_51 (by decide) (fun c_9 => ?_) (fun c_9 => ?_)
      · replace h := it_t h c_9
        obtain rfl := sm1 h
        obtain ⟨rfl, rfl⟩ := sm2 hk
        exact K H locs ls hP hD hS (lv_sub hl [0, 1, 2, 3, 4, 5, 6] rfl)
      · replace h := it_f h c_9
        refine lv_iload hx hb dX2_diagonalOfRank_54 (lv_at hl 4 rfl) ?_
        refine lv_iload hx hb dX2_diagonalOfRank_56 (lv_at hl 7 rfl) ?_
        refine lv_isub hx hb dX2_diagonalOfRank_58 ?_
        refine lv_topi (fun x5_10 ex5_10 => ?_)
        replace h := pl_v h ex5_10
        refine lv_istore (lv' := [(5, .int x5_10), (0, .ref q_t), (1, .ref q_a1), (3, .int x3), (4, .int x4), (6, .int x6), (7, .int x7), (8, .int x8)]) hx hb dX2_diagonalOfRank_59 hl (by decide) rfl (fun ls hl => ?_)
        obtain ⟨x7_11, ex7_11, h⟩ := pl_ok h
        refine lv_iinc (v := x7_11) (lv' := [(7, .int x7_11), (5, .int x5_10), (0, .ref q_t), (1, .ref q_a1), (3, .int x3), (4, .int x4), (6, .int x6), (8, .int x8)]) hx hb dX2_diagonalOfRank_61 hl (k := 6) rfl (by rw [ex7_11]; rfl) (by decide) rfl (fun ls hl => ?_)
        refine lv_aload_n hx hb dX2_diagonalOfRank_64 rfl (lv_at hl 2 rfl) ?_
        refine lv_aload_n hx hb dX2_diagonalOfRank_65 rfl (lv_at hl 3 rfl) ?_
        refine lv_iload hx hb dX2_diagonalOfRank_66 (lv_at hl 6 rfl) ?_
        refine lv_iload hx hb dX2_diagonalOfRank_68 (lv_at hl 0 rfl) ?_
        refine lv_iload hx hb dX2_diagonalOfRank_70 (lv_at hl 5 rfl) ?_
        obtain ⟨r_12, hf_13, h⟩ := bd_ok h
        refine ck_Vi (rest := []) (wn := [(q_t, .inr (1, [.ref q_t_values])), (q_t_values, .inl (G.2 0, 128, .inl t_values)), (q_a1, .inr (3, [.ref q_a1_cells, .int a1_size])), (q_a1_cells, .inl (G.2 0, 49, .inl a1_cells))]) ⟨hx, hb, hml, hown, hts⟩ hK hP hD hS hA [0, 1, 2, 3] [] [0, 1, 2, 3] (c_X2_countThrough l G q_t q_t_values q_a1 q_a1_cells _ t_values a1_size a1_cells x6 x7_11 x4 _ hf_13) (cwV 4 hts gX2_diagonalOfRank_X2_countThrough rfl rfl rfl (by decide +kernel) ⟨Nat.le_of_ble_eq_true rfl, Nat.le_of_ble_eq_true rfl⟩) rfl rfl rfl rfl rfl rfl (by decide) rfl rfl rfl hl.1 rfl (Nat.le_of_ble_eq_true rfl) dX2_diagonalOfRank_72 ⟨Nat.zero_le _, Nat.zero_le _⟩ (fun H locs hP hD hS => ?_)
        refine lv_istore (lv' := [(8, .int r_12), (7, .int x7_11), (5, .int x5_10), (0, .ref q_t), (1, .ref q_a1), (3, .int x3), (4, .int x4), (6, .int x6)]) hx hb dX2_diagonalOfRank_75 hl (by decide) rfl (fun ls hl => ?_)
        refine lv_goto (tgt := 36) hx hb dX2_diagonalOfRank_77 (by decide) ?_
        obtain rfl := sm1 h
        exact ih x5_10 x7_11 r_12 hk H locs ls hP hD hS (lv_sub hl [3, 4, 5, 6, 2, 7, 1, 0] rfl)
set_option maxHeartbeats 4000000 in
set_option maxRecDepth 100000 in
theorem l_X2_diagonalOfRank_1 {p : Program} {l : Launch} {e : Env} {s : State} {m : MethodId} {args : Array Value} {below : List Frame} {meth : Method} {c : Code} {Q : State → Prop} {A0 : Nat → Prop} {H0 : Heap} (C : CallFix p m c cX2_diagonalOfRank 9 s args wsX2_diagonalOfRank RX2) (G : GT) (hK : gK G s) (hA : ∀ q : Nat, H0.size ≤ q → A0 q) (q_t q_t_values q_a1 q_a1_cells : Nat) (t_values : Nat → Int32) (a1_size : Int32) (a1_cells : Nat → Int32) (E_x3 : Int32) (K : ∀ (H : Heap) (locs : List Loc) (ls : Array Slot), va_P G.1 vwCl [(q_t, .inr (1, [.ref q_t_values])), (q_t_values, .inl (G.2 0, 128, .inl t_values)), (q_a1, .inr (3, [.ref q_a1_cells, .int a1_size])), (q_a1_cells, .inl (G.2 0, 49, .inl a1_cells))] H → va_D A0 [(q_t, .inr (1, [.ref q_t_values])), (q_t_values, .inl (G.2 0, 128, .inl t_values)), (q_a1, .inr (3, [.ref q_a1_cells, .int a1_size])), (q_a1_cells, .inl (G.2 0, 49, .inl a1_cells))] → va_S A0 H0 H locs → lv_has ls 9 [(3, .int E_x3)] → W p l e ({ frames := 3, cells := 0, slots := 0, locals := 68 } : Room) s m args below meth c H locs 0 0 Q (F0 m 103 ls [])) : ∀ (n : Nat) (x3 : Int32) (x4 : Int32) (x5 : Int32) (x6 : Int32), lpN (f_X2_diagonalOfRank_L1 t_values a1_size a1_cells) n (x3, x4, x5, x6) = some E_x3 → ∀ (H : Heap) (locs : List Loc) (ls : Array Slot), va_P G.1 vwCl [(q_t, .inr (1, [.ref q_t_values])), (q_t_values, .inl (G.2 0, 128, .inl t_values)), (q_a1, .inr (3, [.ref q_a1_cells, .int a1_size])), (q_a1_cells, .inl (G.2 0, 49, .inl a1_cells))] H → va_D A0 [(q_t, .inr (1, [.ref q_t_values])), (q_t_values, .inl (G.2 0, 128, .inl t_values)), (q_a1, .inr (3, [.ref q_a1_cells, .int a1_size])), (q_a1_cells, .inl (G.2 0, 49, .inl a1_cells))] → va_S A0 H0 H locs → lv_has ls 9 [(0, .ref q_t), (1, .ref q_a1), (3, .int x3), (4, .int x4), (5, .int x5), (6, .int x6)] → W p l e ({ frames := 3, cells := 0, slots := 0, locals := 68 } : Room) s m args below meth c H locs 0 0 Q (F0 m 11 ls []) := by
  obtain ⟨hx, hb, hml, hown, hts⟩ := C
  intro n
  induction n with
  | zero => intro x3 x4 x5 x6 h; exact absurd h (fun h => lp_0 h)
  | succ n ih =>
    intro x3 x4 x5 x6 h H locs ls hP hD hS hl
    obtain ⟨y, h, hk⟩ := lp_s h
    rw [f_X2_diagonalOfRank_L1] at h
    refine lv_iload hx hb dX2_diagonalOfRank_11 (lv_at hl 5 rfl) ?_
    refine lv_aload_n hx hb dX2_diagonalOfRank_13 rfl (lv_at hl 1 rfl) ?_
    obtain ⟨r_1, hf_2, h⟩ := bd_ok h
    refine ck_Vi (rest := [.int x6]) (wn := [(q_t, .inr (1, [.ref q_t_values])), (q_t_values, .inl (G.2 0, 128, .inl t_values)), (q_a1, .inr (3, [.ref q_a1_cells, .int a1_size])), (q_a1_cells, .inl (G.2 0, 49, .inl a1_cells))]) ⟨hx, hb, hml, hown, hts⟩ hK hP hD hS hA [2] [0, 1, 3] [0, 1, 3, 2] (c_X4_size l G q_a1 q_a1_cells _ a1_size _ hf_2) (cwV 0 hts gX2_diagonalOfRank_X4_size rfl rfl rfl (by decide +kernel) ⟨Nat.le_of_ble_eq_true rfl, Nat.le_of_ble_eq_true rfl⟩) rfl rfl rfl rfl rfl rfl (by decide) rfl rfl rfl hl.1 rfl (Nat.le_of_ble_eq_true rfl) dX2_diagonalOfRank_14 ⟨Nat.zero_le _, Nat.zero_le _⟩ (fun H locs hP hD hS => ?_)
    refine lv_icmp_ge (tgt := 103) hx hb dX2_diagonalOfRank_17 (by decide) (fun c_3 => ?_) (fun c_3 => ?_)
    · replace h := it_t h c_3
      obtain rfl := sm1 h
      obtain rfl := sm1 hk
      exact K H locs ls hP hD hS (lv_sub hl [2] rfl)
    · replace h := it_f h c_3
      refine lv_iconst (v := 0) hx hb dX2_diagonalOfRank_20 (by decide) ?_
      refine lv_istore (lv' := [(7, .int (0 : Int32)), (0, .ref q_t), (1, .ref q_a1), (3, .int x3), (4, .int x4), (5, .int x5), (6, .int x6)]) hx hb dX2_diagonalOfRank_21 hl (by decide) rfl (fun ls hl => ?_)
      refine lv_aload_n hx hb dX2_diagonalOfRank_23 rfl (lv_at hl 1 rfl) ?_
      refine lv_aload_n hx hb dX2_diagonalOfRank_24 rfl (lv_at hl 2 rfl) ?_
      refine lv_iload hx hb dX2_diagonalOfRank_25 (lv_at hl 6 rfl) ?_
      refine lv_iload hx hb dX2_diagonalOfRank_27 (lv_at hl 0 rfl) ?_
      refine lv_iload hx hb dX2_diagonalOfRank_29 (lv_at hl 4 rfl) ?_
      obtain ⟨r_4, hf_5, h⟩ := bd_ok h
      refine ck_Vi (rest := []) (wn := [(q_t, .inr (1, [.ref q_t_values])), (q_t_values, .inl (G.2 0, 128, .inl t_values)), (q_a1, .inr (3, [.ref q_a1_cells, .int a1_size])), (q_a1_cells, .inl (G.2 0, 49, .inl a1_cells))]) ⟨hx, hb, hml, hown, hts⟩ hK hP hD hS hA [0, 1, 2, 3] [] [0, 1, 2, 3] (c_X2_countThrough l G q_t q_t_values q_a1 q_a1_cells _ t_values a1_size a1_cells x6 (0 : Int32) x4 _ hf_5) (cwV 4 hts gX2_diagonalOfRank_X2_countThrough rfl rfl rfl (by decide +kernel) ⟨Nat.le_of_ble_eq_true rfl, Nat.le_of_ble_eq_true rfl⟩) rfl rfl rfl rfl rfl rfl (by decide) rfl rfl rfl hl.1 rfl (Nat.le_of_ble_eq_true rfl) dX2_diagonalOfRank_31 ⟨Nat.zero_le _, Nat.zero_le _⟩ (fun H locs hP hD hS => ?_)
      refine lv_istore (lv' := [(8, .int r_4), (7, .int (0 : Int32)), (0, .ref q_t), (1, .ref q_a1), (3, .int x3), (4, .int x4), (5, .int x5), (6, .int x6)]) hx hb dX2_diagonalOfRank_34 hl (by decide) rfl (fun ls hl => ?_)
      obtain ⟨⟨x5_14, x7_15⟩, hz_17, h⟩ := bd_ok h
      refine l_X2_diagonalOfRank_2 ⟨hx, hb, hml, hown, hts⟩ G hK hA q_t q_t_values q_a1 q_a1_cells x3 x4 x6 t_values a1_size a1_cells x5_14 x7_15 ?_ FU x5 (0 : Int32) r_4 hz_17 H locs ls hP hD hS (lv_sub hl [2, 3, 4, 5, 6, 7, 1, 0] rfl)
      intro H locs ls hP hD hS hl
      refine lv_iload_n hx hb dX2_diagonalOfRank_80 rfl (lv_at hl 2 rfl) ?_
      refine lv_bipush (v := 10) hx hb dX2_diagonalOfRank_81 (by decide) ?_
      refine lv_imul hx hb dX2_diagonalOfRank_83 ?_
      refine lv_iload hx hb dX2_diagonalOfRank_84 (lv_at hl 6 rfl) ?_
      refine lv_iadd hx hb dX2_diagonalOfRank_86 ?_
      refine lv_topi (fun x3_18 ex3_18 => ?_)
      replace h := pl_v h ex3_18
      refine lv_istore_n (lv' := [(3, .int x3_18), (0, .ref q_t), (1, .ref q_a1), (4, .int x4), (5, .int x5_14), (6, .int x6), (7, .int x7_15)]) hx hb dX2_diagonalOfRank_87 rfl hl (by decide) rfl (fun ls hl => ?_)
      refine lv_iload hx hb dX2_diagonalOfRank_88 (lv_at hl 3 rfl) ?_
      refine lv_iconst (v := 1) hx hb dX2_diagonalOfRank_90 (by decide) ?_
      refine lv_iload hx hb dX2_diagonalOfRank_91 (lv_at hl 6 rfl) ?_
      refine lv_ishl hx hb dX2_diagonalOfRank_93 ?_
      refine lv_ior hx hb dX2_diagonalOfRank_94 ?_
      refine lv_topi (fun x4_19 ex4_19 => ?_)
      replace h := pl_v h ex4_19
      refine lv_istore (lv' := [(4, .int x4_19), (3, .int x3_18), (0, .ref q_t), (1, .ref q_a1), (5, .int x5_14), (6, .int x6), (7, .int x7_15)]) hx hb dX2_diagonalOfRank_95 hl (by decide) rfl (fun ls hl => ?_)
      obtain ⟨x6_20, ex6_20, h⟩ := pl_ok h
      refine lv_iinc (v := x6_20) (lv' := [(6, .int x6_20), (4, .int x4_19), (3, .int x3_18), (0, .ref q_t), (1, .ref q_a1), (5, .int x5_14), (7, .int x7_15)]) hx hb dX2_diagonalOfRank_97 hl (k := 5) rfl (by rw [ex6_20]; rfl) (by decide) rfl (fun ls hl => ?_)
      refine lv_goto (tgt := 11) hx hb dX2_diagonalOfRank_100 (by decide) ?_
      obtain rfl := sm1 h
      exact ih x3_18 x4_19 x5_14 x6_20 hk H locs ls hP hD hS (lv_sub hl [3, 4, 2, 1, 5, 0] rfl)
set_option maxHeartbeats 4000000 in
set_option maxRecDepth 100000 in
theorem k_X2_diagonalOfRank {p : Program} {l : Launch} {e : Env} {s : State} {m : MethodId} {args : Array Value} {below : List Frame} {meth : Method} {c : Code} {Q : State → Prop} {A0 : Nat → Prop} {H0 : Heap} (C : CallFix p m c cX2_diagonalOfRank 9 s args wsX2_diagonalOfRank RX2) (G : GT) (hK : gK G s) (hA : ∀ q : Nat, H0.size ≤ q → A0 q) (q_t q_t_values q_a1 q_a1_cells : Nat) (t_values : Nat → Int32) (a1_size : Int32) (a1_cells : Nat → Int32) (a2 : Int32) (r : Int32) (h : f_X2_diagonalOfRank t_values a1_size a1_cells a2 = some r) (KR : ∀ (H : Heap) (locs : List Loc) (ls : Array Slot) (pc : Nat), decode cX2_diagonalOfRank pc = .ok (.ireturn, 1) → va_P G.1 vwCl [(q_t, .inr (1, [.ref q_t_values])), (q_t_values, .inl (G.2 0, 128, .inl t_values)), (q_a1, .inr (3, [.ref q_a1_cells, .int a1_size])), (q_a1_cells, .inl (G.2 0, 49, .inl a1_cells))] H → va_D A0 [(q_t, .inr (1, [.ref q_t_values])), (q_t_values, .inl (G.2 0, 128, .inl t_values)), (q_a1, .inr (3, [.ref q_a1_cells, .int a1_size])), (q_a1_cells, .inl (G.2 0, 49, .inl a1_cells))] → va_S A0 H0 H locs → W p l e ({ frames := 3, cells := 0, slots := 0, locals := 68 } : Room) s m args below meth c H locs 0 0 Q (F0 m pc ls [.int r])) : ∀ (H : Heap) (locs : List Loc) (ls : Array Slot), va_P G.1 vwCl [(q_t, .inr (1, [.ref q_t_values])), (q_t_values, .inl (G.2 0, 128, .inl t_values)), (q_a1, .inr (3, [.ref q_a1_cells, .int a1_size])), (q_a1_cells, .inl (G.2 0, 49, .inl a1_cells))] H → va_D A0 [(q_t, .inr (1, [.ref q_t_values])), (q_t_values, .inl (G.2 0, 128, .inl t_values)), (q_a1, .inr (3, [.ref q_a1_cells, .int a1_size])), (q_a1_cells, .inl (G.2 0, 49, .inl a1_cells))] → va_S A0 H0 H locs → lv_has ls 9 [(0, .ref q_t), (1, .ref q_a1), (2, .int a2)] → W p l e ({ frames := 3, cells := 0, slots := 0, locals := 68 } : Room) s m args below meth c H locs 0 0 Q (F0 m 0 ls []) := by
  obtain ⟨hx, hb, hml, hown, hts⟩ := C
  intro H locs ls hP hD hS hl
  rw [f_X2_diagonalOfRank] at h
  refine lv_iconst (v := 0) hx hb dX2_diagonalOfRank_0 (by decide) ?_
  refine lv_istore_n (lv' := [(3, .int (0 : Int32)), (0, .ref q_t), (1, .ref q_a1), (2, .int a2)]) hx hb dX2_diagonalOfRank_1 rfl hl (by decide) rfl (fun ls hl => ?_)
  refine lv_iconst (v := 0) hx hb dX2_diagonalOfRank_2 (by decide) ?_
  refine lv_istore (lv' := [(4, .int (0 : Int32)), (3, .int (0 : Int32)), (0, .ref q_t), (1, .ref q_a1), (2, .int a2)]) hx hb dX2_diagonalOfRank_3 hl (by decide) rfl (fun ls hl => ?_)
  refine lv_iload_n hx hb dX2_diagonalOfRank_5 rfl (lv_at hl 4 rfl) ?_
  refine lv_istore (lv' := [(5, .int a2), (4, .int (0 : Int32)), (3, .int (0 : Int32)), (0, .ref q_t), (1, .ref q_a1), (2, .int a2)]) hx hb dX2_diagonalOfRank_6 hl (by decide) rfl (fun ls hl => ?_)
  refine lv_iconst (v := 0) hx hb dX2_diagonalOfRank_8 (by decide) ?_
  refine lv_istore (lv' := [(6, .int (0 : Int32)), (5, .int a2), (4, .int (0 : Int32)), (3, .int (0 : Int32)), (0, .ref q_t), (1, .ref q_a1), (2, .int a2)]) hx hb dX2_diagonalOfRank_9 hl (by decide) rfl (fun ls hl => ?_)
  obtain ⟨x3_21, hz_23, h⟩ := bd_ok h
  refine l_X2_diagonalOfRank_1 ⟨hx, hb, hml, hown, hts⟩ G hK hA q_t q_t_values q_a1 q_a1_cells t_values a1_size a1_cells x3_21 ?_ FU (0 : Int32) (0 : Int32) a2 (0 : Int32) hz_23 H locs ls hP hD hS (lv_sub hl [4, 5, 3, 2, 1, 0] rfl)
  intro H locs ls hP hD hS hl
  refine lv_iload_n hx hb dX2_diagonalOfRank_103 rfl (lv_at hl 0 rfl) ?_
  obtain rfl := sm1 h
  exact KR H locs ls 104 dX2_diagonalOfRank_104 hP hD hS
set_option maxHeartbeats 4000000 in
set_option maxRecDepth 100000 in
theorem c_X2_diagonalOfRank (l : Launch) (G : GT) (q_t q_t_values q_a1 q_a1_cells : Nat) (sz : Nat) (t_values : Nat → Int32) (a1_size : Int32) (a1_cells : Nat → Int32) (a2 : Int32) (r : Int32) (h : f_X2_diagonalOfRank t_values a1_size a1_cells a2 = some r) : Met l yX2_diagonalOfRank wsX2_diagonalOfRank ({ frames := 3, cells := 0, slots := 0, locals := 68 } : Room) (va_Pc [.ref q_t, .ref q_a1, .int a2] (pcW G [(q_t, .inr (1, [.ref q_t_values])), (q_t_values, .inl (G.2 0, 128, .inl t_values)), (q_a1, .inr (3, [.ref q_a1_cells, .int a1_size])), (q_a1_cells, .inl (G.2 0, 49, .inl a1_cells))] sz)) (va_Qi (fun r9 (_ : Unit) => r9 = r) (fun _ t => atW G (va_A [(q_t, .inr (1, [.ref q_t_values])), (q_t_values, .inl (G.2 0, 128, .inl t_values)), (q_a1, .inr (3, [.ref q_a1_cells, .int a1_size])), (q_a1_cells, .inl (G.2 0, 49, .inl a1_cells))] sz) [(q_t, .inr (1, [.ref q_t_values])), (q_t_values, .inl (G.2 0, 128, .inl t_values)), (q_a1, .inr (3, [.ref q_a1_cells, .int a1_size])), (q_a1_cells, .inl (G.2 0, 49, .inl a1_cells))] t) (va_A [(q_t, .inr (1, [.ref q_t_values])), (q_t_values, .inl (G.2 0, 128, .inl t_values)), (q_a1, .inr (3, [.ref q_a1_cells, .int a1_size])), (q_a1_cells, .inl (G.2 0, 49, .inl a1_cells))] sz)) 0 0 (va_A [(q_t, .inr (1, [.ref q_t_values])), (q_t_values, .inl (G.2 0, 128, .inl t_values)), (q_a1, .inr (3, [.ref q_a1_cells, .int a1_size])), (q_a1_cells, .inl (G.2 0, 49, .inl a1_cells))] sz) := by
  refine Met.ofW (cc := cX2_diagonalOfRank) (maxL := 9) (ret := (some .int)) (by decide) rfl ?_
  intro p e s m args below meth c s₁ B hml hv
  obtain ⟨rfl, hsz, hP, hK, hD0⟩ := hv
  subst hsz
  have hD := hD0.self (sz := s.heap.size)
  generalize hAe : va_A [(q_t, .inr (1, [.ref q_t_values])), (q_t_values, .inl (G.2 0, 128, .inl t_values)), (q_a1, .inr (3, [.ref q_a1_cells, .int a1_size])), (q_a1_cells, .inl (G.2 0, 49, .inl a1_cells))] s.heap.size = A at hD ⊢
  have hA : ∀ q : Nat, s.heap.size ≤ q → A q := fun q h => by rw [← hAe]; exact Or.inr h
  have hl := lv_entry ([.ref q_t, .ref q_a1, .int a2]) (n := 9) (Nat.le_of_ble_eq_true rfl)
  rw [lg_entry_eq]
  refine k_X2_diagonalOfRank ⟨B.exec, B.bytes, hml, findClass_of_methodNamed B.named, atoms_spec (ws := wsX2_diagonalOfRank) B.pre⟩ G hK hA q_t q_t_values q_a1 q_a1_cells _ _ _ _ _ h ?_ _ _ _ hP hD va_S.rf hl
  intro H locs ls pc hd hP hD hS
  exact W.iret B.exec B.bytes B.returns (fun t ht hW => ⟨⟨r, (), rfl, rfl, by rw [ht]; exact hP, hD⟩, hS.F ht⟩) hS.2.2 hd B.notSynchronized
def f_X2_sumThrough (t_values : Nat → Int32) (a1_size : Int32) (a1_cells : Nat → Int32) (a2 : Int32) (a3 : Int32) (a4 : Int32) : Option Int32 :=
  pl ((a4 ||| ((1 : Int32) <<< (a3 &&& 31))) : Int32) (fun x5_1 =>
  if x5_1 = a4 then
    some (-1000 : Int32)
  else
    (f_X4_at a1_size a1_cells a2 a3).bind (fun r_3 =>
    (f_X2_of t_values x5_1).bind (fun r_5 =>
    some (r_3 + r_5))))
set_option maxHeartbeats 4000000 in
set_option maxRecDepth 100000 in
theorem k_X2_sumThrough {p : Program} {l : Launch} {e : Env} {s : State} {m : MethodId} {args : Array Value} {below : List Frame} {meth : Method} {c : Code} {Q : State → Prop} {A0 : Nat → Prop} {H0 : Heap} (C : CallFix p m c cX2_sumThrough 6 s args wsX2_sumThrough RX2) (G : GT) (hK : gK G s) (hA : ∀ q : Nat, H0.size ≤ q → A0 q) (q_t q_t_values q_a1 q_a1_cells : Nat) (t_values : Nat → Int32) (a1_size : Int32) (a1_cells : Nat → Int32) (a2 : Int32) (a3 : Int32) (a4 : Int32) (r : Int32) (h : f_X2_sumThrough t_values a1_size a1_cells a2 a3 a4 = some r) (KR : ∀ (H : Heap) (locs : List Loc) (ls : Array Slot) (pc : Nat), decode cX2_sumThrough pc = .ok (.ireturn, 1) → va_P G.1 vwCl [(q_t, .inr (1, [.ref q_t_values])), (q_t_values, .inl (G.2 0, 128, .inl t_values)), (q_a1, .inr (3, [.ref q_a1_cells, .int a1_size])), (q_a1_cells, .inl (G.2 0, 49, .inl a1_cells))] H → va_D A0 [(q_t, .inr (1, [.ref q_t_values])), (q_t_values, .inl (G.2 0, 128, .inl t_values)), (q_a1, .inr (3, [.ref q_a1_cells, .int a1_size])), (q_a1_cells, .inl (G.2 0, 49, .inl a1_cells))] → va_S A0 H0 H locs → W p l e ({ frames := 2, cells := 0, slots := 0, locals := 43 } : Room) s m args below meth c H locs 0 0 Q (F0 m pc ls [.int r])) : ∀ (H : Heap) (locs : List Loc) (ls : Array Slot), va_P G.1 vwCl [(q_t, .inr (1, [.ref q_t_values])), (q_t_values, .inl (G.2 0, 128, .inl t_values)), (q_a1, .inr (3, [.ref q_a1_cells, .int a1_size])), (q_a1_cells, .inl (G.2 0, 49, .inl a1_cells))] H → va_D A0 [(q_t, .inr (1, [.ref q_t_values])), (q_t_values, .inl (G.2 0, 128, .inl t_values)), (q_a1, .inr (3, [.ref q_a1_cells, .int a1_size])), (q_a1_cells, .inl (G.2 0, 49, .inl a1_cells))] → va_S A0 H0 H locs → lv_has ls 6 [(0, .ref q_t), (1, .ref q_a1), (2, .int a2), (3, .int a3), (4, .int a4)] → W p l e ({ frames := 2, cells := 0, slots := 0, locals := 43 } : Room) s m args below meth c H locs 0 0 Q (F0 m 0 ls []) := by
  obtain ⟨hx, hb, hml, hown, hts⟩ := C
  intro H locs ls hP hD hS hl
  rw [f_X2_sumThrough] at h
  refine lv_iload hx hb dX2_sumThrough_0 (lv_at hl 4 rfl) ?_
  refine lv_iconst (v := 1) hx hb dX2_sumThrough_2 (by decide) ?_
  refine lv_iload_n hx hb dX2_sumThrough_3 rfl (lv_at hl 3 rfl) ?_
  refine lv_ishl hx hb dX2_sumThrough_4 ?_
  refine lv_ior hx hb dX2_sumThrough_5 ?_
  refine lv_topi (fun x5_1 ex5_1 => ?_)
  replace h := pl_v h ex5_1
  refine lv_istore (lv' := [(5, .int x5_1), (0, .ref q_t), (1, .ref q_a1), (2, .int a2), (3, .int a3), (4, .int a4)]) hx hb dX2_sumThrough_6 hl (by decide) rfl (fun ls hl => ?_)
  refine lv_iload hx hb dX2_sumThrough_8 (lv_at hl 0 rfl) ?_
  refine lv_iload hx hb dX2_sumThrough_10 (lv_at hl 5 rfl) ?_
  refine lv_icmp_ne (tgt := 21) hx hb dX2_sumThrough_12 (by decide) (fun c_2 => ?_) (fun c_2 => ?_)
  · replace h := it_f h c_2
    refine lv_aload_n hx hb dX2_sumThrough_21 rfl (lv_at hl 2 rfl) ?_
    refine lv_iload_n hx hb dX2_sumThrough_22 rfl (lv_at hl 3 rfl) ?_
    refine lv_iload_n hx hb dX2_sumThrough_23 rfl (lv_at hl 4 rfl) ?_
    obtain ⟨r_3, hf_4, h⟩ := bd_ok h
    refine ck_Vi (rest := []) (wn := [(q_t, .inr (1, [.ref q_t_values])), (q_t_values, .inl (G.2 0, 128, .inl t_values)), (q_a1, .inr (3, [.ref q_a1_cells, .int a1_size])), (q_a1_cells, .inl (G.2 0, 49, .inl a1_cells))]) ⟨hx, hb, hml, hown, hts⟩ hK hP hD hS hA [2, 3] [0, 1] [0, 1, 2, 3] (c_X4_at l G q_a1 q_a1_cells _ a1_size a1_cells a2 a3 _ hf_4) (cwV 2 hts gX2_sumThrough_X4_at rfl rfl rfl (by decide +kernel) ⟨Nat.le_of_ble_eq_true rfl, Nat.le_of_ble_eq_true rfl⟩) rfl rfl rfl rfl rfl rfl (by decide) rfl rfl rfl hl.1 rfl (Nat.le_of_ble_eq_true rfl) dX2_sumThrough_24 ⟨Nat.zero_le _, Nat.zero_le _⟩ (fun H locs hP hD hS => ?_)
    refine lv_aload_n hx hb dX2_sumThrough_27 rfl (lv_at hl 1 rfl) ?_
    refine lv_iload hx hb dX2_sumThrough_28 (lv_at hl 0 rfl) ?_
    obtain ⟨r_5, hf_6, h⟩ := bd_ok h
    refine ck_Vi (rest := [.int r_3]) (wn := [(q_t, .inr (1, [.ref q_t_values])), (q_t_values, .inl (G.2 0, 128, .inl t_values)), (q_a1, .inr (3, [.ref q_a1_cells, .int a1_size])), (q_a1_cells, .inl (G.2 0, 49, .inl a1_cells))]) ⟨hx, hb, hml, hown, hts⟩ hK hP hD hS hA [0, 1] [2, 3] [2, 3, 0, 1] (c_X2_of l G q_t q_t_values _ t_values x5_1 _ hf_6) (cwV 1 hts gX2_sumThrough_X2_of rfl rfl rfl (by decide +kernel) ⟨Nat.le_of_ble_eq_true rfl, Nat.le_of_ble_eq_true rfl⟩) rfl rfl rfl rfl rfl rfl (by decide) rfl rfl rfl hl.1 rfl (Nat.le_of_ble_eq_true rfl) dX2_sumThrough_30 ⟨Nat.zero_le _, Nat.zero_le _⟩ (fun H locs hP hD hS => ?_)
    refine lv_iadd hx hb dX2_sumThrough_33 ?_
    obtain rfl := sm1 h
    exact KR H locs ls 34 dX2_sumThrough_34 hP hD hS
  · replace h := it_t h c_2
    refine lv_sipush (v := -1000) hx hb dX2_sumThrough_15 (by decide) ?_
    refine lv_goto (tgt := 34) hx hb dX2_sumThrough_18 (by decide) ?_
    obtain rfl := sm1 h
    exact KR H locs ls 34 dX2_sumThrough_34 hP hD hS
set_option maxHeartbeats 4000000 in
set_option maxRecDepth 100000 in
theorem c_X2_sumThrough (l : Launch) (G : GT) (q_t q_t_values q_a1 q_a1_cells : Nat) (sz : Nat) (t_values : Nat → Int32) (a1_size : Int32) (a1_cells : Nat → Int32) (a2 : Int32) (a3 : Int32) (a4 : Int32) (r : Int32) (h : f_X2_sumThrough t_values a1_size a1_cells a2 a3 a4 = some r) : Met l yX2_sumThrough wsX2_sumThrough ({ frames := 2, cells := 0, slots := 0, locals := 43 } : Room) (va_Pc [.ref q_t, .ref q_a1, .int a2, .int a3, .int a4] (pcW G [(q_t, .inr (1, [.ref q_t_values])), (q_t_values, .inl (G.2 0, 128, .inl t_values)), (q_a1, .inr (3, [.ref q_a1_cells, .int a1_size])), (q_a1_cells, .inl (G.2 0, 49, .inl a1_cells))] sz)) (va_Qi (fun r9 (_ : Unit) => r9 = r) (fun _ t => atW G (va_A [(q_t, .inr (1, [.ref q_t_values])), (q_t_values, .inl (G.2 0, 128, .inl t_values)), (q_a1, .inr (3, [.ref q_a1_cells, .int a1_size])), (q_a1_cells, .inl (G.2 0, 49, .inl a1_cells))] sz) [(q_t, .inr (1, [.ref q_t_values])), (q_t_values, .inl (G.2 0, 128, .inl t_values)), (q_a1, .inr (3, [.ref q_a1_cells, .int a1_size])), (q_a1_cells, .inl (G.2 0, 49, .inl a1_cells))] t) (va_A [(q_t, .inr (1, [.ref q_t_values])), (q_t_values, .inl (G.2 0, 128, .inl t_values)), (q_a1, .inr (3, [.ref q_a1_cells, .int a1_size])), (q_a1_cells, .inl (G.2 0, 49, .inl a1_cells))] sz)) 0 0 (va_A [(q_t, .inr (1, [.ref q_t_values])), (q_t_values, .inl (G.2 0, 128, .inl t_values)), (q_a1, .inr (3, [.ref q_a1_cells, .int a1_size])), (q_a1_cells, .inl (G.2 0, 49, .inl a1_cells))] sz) := by
  refine Met.ofW (cc := cX2_sumThrough) (maxL := 6) (ret := (some .int)) (by decide) rfl ?_
  intro p e s m args below meth c s₁ B hml hv
  obtain ⟨rfl, hsz, hP, hK, hD0⟩ := hv
  subst hsz
  have hD := hD0.self (sz := s.heap.size)
  generalize hAe : va_A [(q_t, .inr (1, [.ref q_t_values])), (q_t_values, .inl (G.2 0, 128, .inl t_values)), (q_a1, .inr (3, [.ref q_a1_cells, .int a1_size])), (q_a1_cells, .inl (G.2 0, 49, .inl a1_cells))] s.heap.size = A at hD ⊢
  have hA : ∀ q : Nat, s.heap.size ≤ q → A q := fun q h => by rw [← hAe]; exact Or.inr h
  have hl := lv_entry ([.ref q_t, .ref q_a1, .int a2, .int a3, .int a4]) (n := 6) (Nat.le_of_ble_eq_true rfl)
  rw [lg_entry_eq]
  refine k_X2_sumThrough ⟨B.exec, B.bytes, hml, findClass_of_methodNamed B.named, atoms_spec (ws := wsX2_sumThrough) B.pre⟩ G hK hA q_t q_t_values q_a1 q_a1_cells _ _ _ _ _ _ _ h ?_ _ _ _ hP hD va_S.rf hl
  intro H locs ls pc hd hP hD hS
  exact W.iret B.exec B.bytes B.returns (fun t ht hW => ⟨⟨r, (), rfl, rfl, by rw [ht]; exact hP, hD⟩, hS.F ht⟩) hS.2.2 hd B.notSynchronized
set_option maxRecDepth 20000 in
theorem wd_X2_findGreatestSums_1 : Cond.methodLink RX2 48 Lib.Math.max.name ∈ wsX2_findGreatestSums := List.mem_of_getElem? (i := 1) (by decide +kernel)
set_option maxRecDepth 20000 in
theorem wd_X2_findGreatestSums_2 : Cond.static Lib.Math.max.name ∈ wsX2_findGreatestSums := List.mem_of_getElem? (i := 2) (by decide +kernel)
set_option maxRecDepth 20000 in
theorem wd_X2_findGreatestSums_3 : Cond.initialized "java/lang/Math" ∈ wsX2_findGreatestSums := List.mem_of_getElem? (i := 3) (by decide +kernel)
set_option maxRecDepth 20000 in
theorem wd_X2_findGreatestSums_4 : Cond.code Lib.Math.max.name Lib.Math.max.code 2 (some .int) ∈ wsX2_findGreatestSums := List.mem_of_getElem? (i := 4) (by decide +kernel)
def f_X2_findGreatestSums_L2 (x3 : Int32) (x4 : Int32) (t_values : Nat → Int32) (a1_size : Int32) (a1_cells : Nat → Int32) : (Int32 × Int32) → Option ((Int32 × Int32) ⊕ Int32)
  | (x5, x6) =>
    (f_X4_size a1_size).bind (fun r_9 =>
    if r_9 ≤ x6 then
      some (.inr x5)
    else
      (f_X2_sumThrough t_values a1_size a1_cells x4 x6 x3).bind (fun r_12 =>
      pl ((if x5 < r_12 then r_12 else x5) : Int32) (fun x5_14 =>
      pl ((x6 + (1 : Int32)) : Int32) (fun x6_15 =>
      some (.inl (x5_14, x6_15))))))
def f_X2_findGreatestSums_L1 (a1_size : Int32) (a1_cells : Nat → Int32) : (Int32 × (Nat → Int32)) → Option ((Int32 × (Nat → Int32)) ⊕ (Nat → Int32))
  | (x3, t_values) =>
    if x3 < 0 then
      some (.inr t_values)
    else
      (f_J6_bitCount_0f7a4 x3).bind (fun r_7 =>
      (lpN (f_X2_findGreatestSums_L2 x3 r_7 t_values a1_size a1_cells) FU ((-1000 : Int32), (0 : Int32))).bind (fun x5_16 =>
      (f_X2_put t_values x3 x5_16).bind (fun t_values_19 =>
      pl ((x3 + (-1 : Int32)) : Int32) (fun x3_21 =>
      some (.inl (x3_21, t_values_19))))))
def f_X2_findGreatestSums (t_values : Nat → Int32) (a1_size : Int32) (a1_cells : Nat → Int32) : Option (Nat → Int32) :=
  (f_X4_allLines a1_size).bind (fun r_1 =>
  (f_X2_put t_values r_1 (0 : Int32)).bind (fun t_values_3 =>
  pl ((r_1 - (1 : Int32)) : Int32) (fun x3_5 =>
  (lpN (f_X2_findGreatestSums_L1 a1_size a1_cells) FU (x3_5, t_values_3)).bind (fun t_values_22 =>
  some t_values_22))))
set_option maxHeartbeats 4000000 in
set_option maxRecDepth 100000 in
theorem l_X2_findGreatestSums_2 {p : Program} {l : Launch} {e : Env} {s : State} {m : MethodId} {args : Array Value} {below : List Frame} {meth : Method} {c : Code} {Q : State → Prop} {A0 : Nat → Prop} {H0 : Heap} (C : CallFix p m c cX2_findGreatestSums 7 s args wsX2_findGreatestSums RX2) (G : GT) (hK : gK G s) (hA : ∀ q : Nat, H0.size ≤ q → A0 q) (q_t q_t_values q_a1 q_a1_cells : Nat) (x3 : Int32) (x4 : Int32) (t_values : Nat → Int32) (a1_size : Int32) (a1_cells : Nat → Int32) (E_x5 : Int32) (K : ∀ (H : Heap) (locs : List Loc) (ls : Array Slot), va_P G.1 vwCl [(q_t, .inr (1, [.ref q_t_values])), (q_t_values, .inl (G.2 0, 128, .inl t_values)), (q_a1, .inr (3, [.ref q_a1_cells, .int a1_size])), (q_a1_cells, .inl (G.2 0, 49, .inl a1_cells))] H → va_D A0 [(q_t, .inr (1, [.ref q_t_values])), (q_t_values, .inl (G.2 0, 128, .inl t_values)), (q_a1, .inr (3, [.ref q_a1_cells, .int a1_size])), (q_a1_cells, .inl (G.2 0, 49, .inl a1_cells))] → va_S A0 H0 H locs → lv_has ls 7 [(0, .ref q_t), (1, .ref q_a1), (3, .int x3), (5, .int E_x5)] → W p l e ({ frames := 3, cells := 0, slots := 0, locals := 68 } : Room) s m args below meth c H locs 0 0 Q (F0 m 65 ls [])) : ∀ (n : Nat) (x5 : Int32) (x6 : Int32), lpN (f_X2_findGreatestSums_L2 x3 x4 t_values a1_size a1_cells) n (x5, x6) = some E_x5 → ∀ (H : Heap) (locs : List Loc) (ls : Array Slot), va_P G.1 vwCl [(q_t, .inr (1, [.ref q_t_values])), (q_t_values, .inl (G.2 0, 128, .inl t_values)), (q_a1, .inr (3, [.ref q_a1_cells, .int a1_size])), (q_a1_cells, .inl (G.2 0, 49, .inl a1_cells))] H → va_D A0 [(q_t, .inr (1, [.ref q_t_values])), (q_t_values, .inl (G.2 0, 128, .inl t_values)), (q_a1, .inr (3, [.ref q_a1_cells, .int a1_size])), (q_a1_cells, .inl (G.2 0, 49, .inl a1_cells))] → va_S A0 H0 H locs → lv_has ls 7 [(0, .ref q_t), (1, .ref q_a1), (3, .int x3), (4, .int x4), (5, .int x5), (6, .int x6)] → W p l e ({ frames := 3, cells := 0, slots := 0, locals := 68 } : Room) s m args below meth c H locs 0 0 Q (F0 m 33 ls []) := by
  obtain ⟨hx, hb, hml, hown, hts⟩ := C
  intro n
  induction n with
  | zero => intro x5 x6 h; exact absurd h (fun h => lp_0 h)
  | succ n ih =>
    intro x5 x6 h H locs ls hP hD hS hl
    obtain ⟨y, h, hk⟩ := lp_s h
    rw [f_X2_findGreatestSums_L2] at h
    refine lv_iload hx hb dX2_findGreatestSums_33 (lv_at hl 5 rfl) ?_
    refine lv_aload_n hx hb dX2_findGreatestSums_35 rfl (lv_at hl 1 rfl) ?_
    obtain ⟨r_9, hf_10, h⟩ := bd_ok h
    refine ck_Vi (rest := [.int x6]) (wn := [(q_t, .inr (1, [.ref q_t_values])), (q_t_values, .inl (G.2 0, 128, .inl t_values)), (q_a1, .inr (3, [.ref q_a1_cells, .int a1_size])), (q_a1_cells, .inl (G.2 0, 49, .inl a1_cells))]) ⟨hx, hb, hml, hown, hts⟩ hK hP hD hS hA [2] [0, 1, 3] [0, 1, 3, 2] (c_X4_size l G q_a1 q_a1_cells _ a1_size _ hf_10) (cwV 0 hts gX2_findGreatestSums_X4_size rfl rfl rfl (by decide +kernel) ⟨Nat.le_of_ble_eq_true rfl, Nat.le_of_ble_eq_true rfl⟩) rfl rfl rfl rfl rfl rfl (by decide) rfl rfl rfl hl.1 rfl (Nat.le_of_ble_eq_true rfl) dX2_findGreatestSums_36 ⟨Nat.zero_le _, Nat.zero_le _⟩ (fun H locs hP hD hS => ?_)
    refine lv_icmp_ge (tgt := 65) hx hb dX2_findGreatestSums_39 (by decide) (fun c_11 => ?_) (fun c_11 => ?_)
    · replace h := it_t h c_11
      obtain rfl := sm1 h
      obtain rfl := sm1 hk
      exact K H locs ls hP hD hS (lv_sub hl [0, 1, 2, 4] rfl)
    · replace h := it_f h c_11
      refine lv_iload hx hb dX2_findGreatestSums_42 (lv_at hl 4 rfl) ?_
      refine lv_aload_n hx hb dX2_findGreatestSums_44 rfl (lv_at hl 0 rfl) ?_
      refine lv_aload_n hx hb dX2_findGreatestSums_45 rfl (lv_at hl 1 rfl) ?_
      refine lv_iload hx hb dX2_findGreatestSums_46 (lv_at hl 3 rfl) ?_
      refine lv_iload hx hb dX2_findGreatestSums_48 (lv_at hl 5 rfl) ?_
      refine lv_iload_n hx hb dX2_findGreatestSums_50 rfl (lv_at hl 2 rfl) ?_
      obtain ⟨r_12, hf_13, h⟩ := bd_ok h
      refine ck_Vi (rest := [.int x5]) (wn := [(q_t, .inr (1, [.ref q_t_values])), (q_t_values, .inl (G.2 0, 128, .inl t_values)), (q_a1, .inr (3, [.ref q_a1_cells, .int a1_size])), (q_a1_cells, .inl (G.2 0, 49, .inl a1_cells))]) ⟨hx, hb, hml, hown, hts⟩ hK hP hD hS hA [0, 1, 2, 3] [] [0, 1, 2, 3] (c_X2_sumThrough l G q_t q_t_values q_a1 q_a1_cells _ t_values a1_size a1_cells x4 x6 x3 _ hf_13) (cwV 4 hts gX2_findGreatestSums_X2_sumThrough rfl rfl rfl (by decide +kernel) ⟨Nat.le_of_ble_eq_true rfl, Nat.le_of_ble_eq_true rfl⟩) rfl rfl rfl rfl rfl rfl (by decide) rfl rfl rfl hl.1 rfl (Nat.le_of_ble_eq_true rfl) dX2_findGreatestSums_51 ⟨Nat.zero_le _, Nat.zero_le _⟩ (fun H locs hP hD hS => ?_)
      refine va_mmax hx hb (hml.trans hl.1.symm) hown (hts _ wd_X2_findGreatestSums_1) (hts _ wd_X2_findGreatestSums_2) (hts _ wd_X2_findGreatestSums_3) (hts _ wd_X2_findGreatestSums_4) (Nat.le_of_ble_eq_true rfl) (Nat.le_of_ble_eq_true rfl) (Nat.zero_le _) (Nat.zero_le _) dX2_findGreatestSums_54 ?_
      refine lv_topi (fun x5_14 ex5_14 => ?_)
      replace h := pl_v h ex5_14
      refine lv_istore (lv' := [(5, .int x5_14), (0, .ref q_t), (1, .ref q_a1), (3, .int x3), (4, .int x4), (6, .int x6)]) hx hb dX2_findGreatestSums_57 hl (by decide) rfl (fun ls hl => ?_)
      obtain ⟨x6_15, ex6_15, h⟩ := pl_ok h
      refine lv_iinc (v := x6_15) (lv' := [(6, .int x6_15), (5, .int x5_14), (0, .ref q_t), (1, .ref q_a1), (3, .int x3), (4, .int x4)]) hx hb dX2_findGreatestSums_59 hl (k := 5) rfl (by rw [ex6_15]; rfl) (by decide) rfl (fun ls hl => ?_)
      refine lv_goto (tgt := 33) hx hb dX2_findGreatestSums_62 (by decide) ?_
      obtain rfl := sm1 h
      exact ih x5_14 x6_15 hk H locs ls hP hD hS (lv_sub hl [2, 3, 4, 5, 1, 0] rfl)
set_option maxHeartbeats 4000000 in
set_option maxRecDepth 100000 in
theorem l_X2_findGreatestSums_1 {p : Program} {l : Launch} {e : Env} {s : State} {m : MethodId} {args : Array Value} {below : List Frame} {meth : Method} {c : Code} {Q : State → Prop} {A0 : Nat → Prop} {H0 : Heap} (C : CallFix p m c cX2_findGreatestSums 7 s args wsX2_findGreatestSums RX2) (G : GT) (hK : gK G s) (hA : ∀ q : Nat, H0.size ≤ q → A0 q) (q_t q_t_values q_a1 q_a1_cells : Nat) (a1_size : Int32) (a1_cells : Nat → Int32) (E_t_values : Nat → Int32) (K : ∀ (H : Heap) (locs : List Loc) (ls : Array Slot), va_P G.1 vwCl [(q_t, .inr (1, [.ref q_t_values])), (q_t_values, .inl (G.2 0, 128, .inl E_t_values)), (q_a1, .inr (3, [.ref q_a1_cells, .int a1_size])), (q_a1_cells, .inl (G.2 0, 49, .inl a1_cells))] H → va_D A0 [(q_t, .inr (1, [.ref q_t_values])), (q_t_values, .inl (G.2 0, 128, .inl E_t_values)), (q_a1, .inr (3, [.ref q_a1_cells, .int a1_size])), (q_a1_cells, .inl (G.2 0, 49, .inl a1_cells))] → va_S A0 H0 H locs → lv_has ls 7 [] → W p l e ({ frames := 3, cells := 0, slots := 0, locals := 68 } : Room) s m args below meth c H locs 0 0 Q (F0 m 78 ls [])) : ∀ (n : Nat) (x3 : Int32) (t_values : Nat → Int32), lpN (f_X2_findGreatestSums_L1 a1_size a1_cells) n (x3, t_values) = some E_t_values → ∀ (H : Heap) (locs : List Loc) (ls : Array Slot), va_P G.1 vwCl [(q_t, .inr (1, [.ref q_t_values])), (q_t_values, .inl (G.2 0, 128, .inl t_values)), (q_a1, .inr (3, [.ref q_a1_cells, .int a1_size])), (q_a1_cells, .inl (G.2 0, 49, .inl a1_cells))] H → va_D A0 [(q_t, .inr (1, [.ref q_t_values])), (q_t_values, .inl (G.2 0, 128, .inl t_values)), (q_a1, .inr (3, [.ref q_a1_cells, .int a1_size])), (q_a1_cells, .inl (G.2 0, 49, .inl a1_cells))] → va_S A0 H0 H locs → lv_has ls 7 [(0, .ref q_t), (1, .ref q_a1), (3, .int x3)] → W p l e ({ frames := 3, cells := 0, slots := 0, locals := 68 } : Room) s m args below meth c H locs 0 0 Q (F0 m 15 ls []) := by
  obtain ⟨hx, hb, hml, hown, hts⟩ := C
  intro n
  induction n with
  | zero => intro x3 t_values h; exact absurd h (fun h => lp_0 h)
  | succ n ih =>
    intro x3 t_values h H locs ls hP hD hS hl
    obtain ⟨y, h, hk⟩ := lp_s h
    rw [f_X2_findGreatestSums_L1] at h
    refine lv_iload_n hx hb dX2_findGreatestSums_15 rfl (lv_at hl 2 rfl) ?_
    refine lv_if_lt (tgt := 78) hx hb dX2_findGreatestSums_16 (by decide) (fun c_6 => ?_) (fun c_6 => ?_)
    · replace h := it_t h c_6
      obtain rfl := sm1 h
      obtain rfl := sm1 hk
      exact K H locs ls hP hD hS (lv_sub hl [] rfl)
    · replace h := it_f h c_6
      refine lv_iload_n hx hb dX2_findGreatestSums_19 rfl (lv_at hl 2 rfl) ?_
      obtain ⟨r_7, hf_8, h⟩ := bd_ok h
      refine ck_Si (rest := []) (wn := [(q_t, .inr (1, [.ref q_t_values])), (q_t_values, .inl (G.2 0, 128, .inl t_values)), (q_a1, .inr (3, [.ref q_a1_cells, .int a1_size])), (q_a1_cells, .inl (G.2 0, 49, .inl a1_cells))]) ⟨hx, hb, hml, hown, hts⟩ hK hP hD hS hA [] [0, 1, 2, 3] [0, 1, 2, 3] (c_J6_bitCount_0f7a4 l G _ x3 _ hf_8) (va_cwS 1 hts gX2_findGreatestSums_J6_bitCount_0f7a4 rfl rfl rfl (by decide +kernel) ⟨Nat.le_of_ble_eq_true rfl, Nat.le_of_ble_eq_true rfl⟩) rfl rfl rfl rfl (by decide) rfl rfl rfl hl.1 rfl (Nat.le_of_ble_eq_true rfl) dX2_findGreatestSums_20 ⟨Nat.zero_le _, Nat.zero_le _⟩ (fun H locs hP hD hS => ?_)
      refine lv_istore (lv' := [(4, .int r_7), (0, .ref q_t), (1, .ref q_a1), (3, .int x3)]) hx hb dX2_findGreatestSums_23 hl (by decide) rfl (fun ls hl => ?_)
      refine lv_sipush (v := -1000) hx hb dX2_findGreatestSums_25 (by decide) ?_
      refine lv_istore (lv' := [(5, .int (-1000 : Int32)), (4, .int r_7), (0, .ref q_t), (1, .ref q_a1), (3, .int x3)]) hx hb dX2_findGreatestSums_28 hl (by decide) rfl (fun ls hl => ?_)
      refine lv_iconst (v := 0) hx hb dX2_findGreatestSums_30 (by decide) ?_
      refine lv_istore (lv' := [(6, .int (0 : Int32)), (5, .int (-1000 : Int32)), (4, .int r_7), (0, .ref q_t), (1, .ref q_a1), (3, .int x3)]) hx hb dX2_findGreatestSums_31 hl (by decide) rfl (fun ls hl => ?_)
      obtain ⟨x5_16, hz_18, h⟩ := bd_ok h
      refine l_X2_findGreatestSums_2 ⟨hx, hb, hml, hown, hts⟩ G hK hA q_t q_t_values q_a1 q_a1_cells x3 r_7 t_values a1_size a1_cells x5_16 ?_ FU (-1000 : Int32) (0 : Int32) hz_18 H locs ls hP hD hS (lv_sub hl [3, 4, 5, 2, 1, 0] rfl)
      intro H locs ls hP hD hS hl
      refine lv_aload_n hx hb dX2_findGreatestSums_65 rfl (lv_at hl 0 rfl) ?_
      refine lv_iload_n hx hb dX2_findGreatestSums_66 rfl (lv_at hl 2 rfl) ?_
      refine lv_iload hx hb dX2_findGreatestSums_67 (lv_at hl 3 rfl) ?_
      obtain ⟨t_values_19, hf_20, h⟩ := bd_ok h
      refine ck_Vv (rest := []) (wn := [(q_t, .inr (1, [.ref q_t_values])), (q_t_values, .inl (G.2 0, 128, .inl t_values_19)), (q_a1, .inr (3, [.ref q_a1_cells, .int a1_size])), (q_a1_cells, .inl (G.2 0, 49, .inl a1_cells))]) ⟨hx, hb, hml, hown, hts⟩ hK hP hD hS hA [0, 1] [2, 3] [2, 3, 0, 1] (c_X2_put l G q_t q_t_values _ t_values x3 x5_16 _ hf_20) (cwV 2 hts gX2_findGreatestSums_X2_put rfl rfl rfl (by decide +kernel) ⟨Nat.le_of_ble_eq_true rfl, Nat.le_of_ble_eq_true rfl⟩) rfl rfl rfl rfl rfl rfl (by decide) rfl rfl rfl hl.1 rfl (Nat.le_of_ble_eq_true rfl) dX2_findGreatestSums_69 ⟨Nat.zero_le _, Nat.zero_le _⟩ (fun H locs hP hD hS => ?_)
      obtain ⟨x3_21, ex3_21, h⟩ := pl_ok h
      refine lv_iinc (v := x3_21) (lv' := [(3, .int x3_21), (0, .ref q_t), (1, .ref q_a1), (5, .int x5_16)]) hx hb dX2_findGreatestSums_72 hl (k := 2) rfl (by rw [ex3_21]; rfl) (by decide) rfl (fun ls hl => ?_)
      refine lv_goto (tgt := 15) hx hb dX2_findGreatestSums_75 (by decide) ?_
      obtain rfl := sm1 h
      exact ih x3_21 t_values_19 hk H locs ls hP hD hS (lv_sub hl [1, 2, 0] rfl)
set_option maxHeartbeats 4000000 in
set_option maxRecDepth 100000 in
theorem k_X2_findGreatestSums {p : Program} {l : Launch} {e : Env} {s : State} {m : MethodId} {args : Array Value} {below : List Frame} {meth : Method} {c : Code} {Q : State → Prop} {A0 : Nat → Prop} {H0 : Heap} (C : CallFix p m c cX2_findGreatestSums 7 s args wsX2_findGreatestSums RX2) (G : GT) (hK : gK G s) (hA : ∀ q : Nat, H0.size ≤ q → A0 q) (q_t q_t_values q_a1 q_a1_cells : Nat) (t_values : Nat → Int32) (a1_size : Int32) (a1_cells : Nat → Int32) (o_t_values : Nat → Int32) (h : f_X2_findGreatestSums t_values a1_size a1_cells = some o_t_values) (KR : ∀ (H : Heap) (locs : List Loc) (ls : Array Slot) (pc : Nat), decode cX2_findGreatestSums pc = .ok (.return_, 1) → va_P G.1 vwCl [(q_t, .inr (1, [.ref q_t_values])), (q_t_values, .inl (G.2 0, 128, .inl o_t_values)), (q_a1, .inr (3, [.ref q_a1_cells, .int a1_size])), (q_a1_cells, .inl (G.2 0, 49, .inl a1_cells))] H → va_D A0 [(q_t, .inr (1, [.ref q_t_values])), (q_t_values, .inl (G.2 0, 128, .inl o_t_values)), (q_a1, .inr (3, [.ref q_a1_cells, .int a1_size])), (q_a1_cells, .inl (G.2 0, 49, .inl a1_cells))] → va_S A0 H0 H locs → W p l e ({ frames := 3, cells := 0, slots := 0, locals := 68 } : Room) s m args below meth c H locs 0 0 Q (F0 m pc ls [])) : ∀ (H : Heap) (locs : List Loc) (ls : Array Slot), va_P G.1 vwCl [(q_t, .inr (1, [.ref q_t_values])), (q_t_values, .inl (G.2 0, 128, .inl t_values)), (q_a1, .inr (3, [.ref q_a1_cells, .int a1_size])), (q_a1_cells, .inl (G.2 0, 49, .inl a1_cells))] H → va_D A0 [(q_t, .inr (1, [.ref q_t_values])), (q_t_values, .inl (G.2 0, 128, .inl t_values)), (q_a1, .inr (3, [.ref q_a1_cells, .int a1_size])), (q_a1_cells, .inl (G.2 0, 49, .inl a1_cells))] → va_S A0 H0 H locs → lv_has ls 7 [(0, .ref q_t), (1, .ref q_a1)] → W p l e ({ frames := 3, cells := 0, slots := 0, locals := 68 } : Room) s m args below meth c H locs 0 0 Q (F0 m 0 ls []) := by
  obtain ⟨hx, hb, hml, hown, hts⟩ := C
  intro H locs ls hP hD hS hl
  rw [f_X2_findGreatestSums] at h
  refine lv_aload_n hx hb dX2_findGreatestSums_0 rfl (lv_at hl 1 rfl) ?_
  obtain ⟨r_1, hf_2, h⟩ := bd_ok h
  refine ck_Vi (rest := []) (wn := [(q_t, .inr (1, [.ref q_t_values])), (q_t_values, .inl (G.2 0, 128, .inl t_values)), (q_a1, .inr (3, [.ref q_a1_cells, .int a1_size])), (q_a1_cells, .inl (G.2 0, 49, .inl a1_cells))]) ⟨hx, hb, hml, hown, hts⟩ hK hP hD hS hA [2] [0, 1, 3] [0, 1, 3, 2] (c_X4_allLines l G q_a1 q_a1_cells _ a1_size _ hf_2) (cwV 0 hts gX2_findGreatestSums_X4_allLines rfl rfl rfl (by decide +kernel) ⟨Nat.le_of_ble_eq_true rfl, Nat.le_of_ble_eq_true rfl⟩) rfl rfl rfl rfl rfl rfl (by decide) rfl rfl rfl hl.1 rfl (Nat.le_of_ble_eq_true rfl) dX2_findGreatestSums_1 ⟨Nat.zero_le _, Nat.zero_le _⟩ (fun H locs hP hD hS => ?_)
  refine lv_istore_n (lv' := [(2, .int r_1), (0, .ref q_t), (1, .ref q_a1)]) hx hb dX2_findGreatestSums_4 rfl hl (by decide) rfl (fun ls hl => ?_)
  refine lv_aload_n hx hb dX2_findGreatestSums_5 rfl (lv_at hl 1 rfl) ?_
  refine lv_iload_n hx hb dX2_findGreatestSums_6 rfl (lv_at hl 0 rfl) ?_
  refine lv_iconst (v := 0) hx hb dX2_findGreatestSums_7 (by decide) ?_
  obtain ⟨t_values_3, hf_4, h⟩ := bd_ok h
  refine ck_Vv (rest := []) (wn := [(q_t, .inr (1, [.ref q_t_values])), (q_t_values, .inl (G.2 0, 128, .inl t_values_3)), (q_a1, .inr (3, [.ref q_a1_cells, .int a1_size])), (q_a1_cells, .inl (G.2 0, 49, .inl a1_cells))]) ⟨hx, hb, hml, hown, hts⟩ hK hP hD hS hA [0, 1] [2, 3] [2, 3, 0, 1] (c_X2_put l G q_t q_t_values _ t_values r_1 (0 : Int32) _ hf_4) (cwV 2 hts gX2_findGreatestSums_X2_put rfl rfl rfl (by decide +kernel) ⟨Nat.le_of_ble_eq_true rfl, Nat.le_of_ble_eq_true rfl⟩) rfl rfl rfl rfl rfl rfl (by decide) rfl rfl rfl hl.1 rfl (Nat.le_of_ble_eq_true rfl) dX2_findGreatestSums_8 ⟨Nat.zero_le _, Nat.zero_le _⟩ (fun H locs hP hD hS => ?_)
  refine lv_iload_n hx hb dX2_findGreatestSums_11 rfl (lv_at hl 0 rfl) ?_
  refine lv_iconst (v := 1) hx hb dX2_findGreatestSums_12 (by decide) ?_
  refine lv_isub hx hb dX2_findGreatestSums_13 ?_
  refine lv_topi (fun x3_5 ex3_5 => ?_)
  replace h := pl_v h ex3_5
  refine lv_istore_n (lv' := [(3, .int x3_5), (2, .int r_1), (0, .ref q_t), (1, .ref q_a1)]) hx hb dX2_findGreatestSums_14 rfl hl (by decide) rfl (fun ls hl => ?_)
  obtain ⟨t_values_22, hz_24, h⟩ := bd_ok h
  refine l_X2_findGreatestSums_1 ⟨hx, hb, hml, hown, hts⟩ G hK hA q_t q_t_values q_a1 q_a1_cells a1_size a1_cells t_values_22 ?_ FU x3_5 t_values_3 hz_24 H locs ls hP hD hS (lv_sub hl [2, 3, 0] rfl)
  intro H locs ls hP hD hS hl
  obtain rfl := sm1 h
  exact KR H locs ls 78 dX2_findGreatestSums_78 hP hD hS
set_option maxHeartbeats 4000000 in
set_option maxRecDepth 100000 in
theorem c_X2_findGreatestSums (l : Launch) (G : GT) (q_t q_t_values q_a1 q_a1_cells : Nat) (sz : Nat) (t_values : Nat → Int32) (a1_size : Int32) (a1_cells : Nat → Int32) (o_t_values : Nat → Int32) (h : f_X2_findGreatestSums t_values a1_size a1_cells = some o_t_values) : Met l yX2_findGreatestSums wsX2_findGreatestSums ({ frames := 3, cells := 0, slots := 0, locals := 68 } : Room) (va_Pc [.ref q_t, .ref q_a1] (pcW G [(q_t, .inr (1, [.ref q_t_values])), (q_t_values, .inl (G.2 0, 128, .inl t_values)), (q_a1, .inr (3, [.ref q_a1_cells, .int a1_size])), (q_a1_cells, .inl (G.2 0, 49, .inl a1_cells))] sz)) (va_Qv (fun (_ : Unit) => True) (fun _ t => atW G (va_A [(q_t, .inr (1, [.ref q_t_values])), (q_t_values, .inl (G.2 0, 128, .inl t_values)), (q_a1, .inr (3, [.ref q_a1_cells, .int a1_size])), (q_a1_cells, .inl (G.2 0, 49, .inl a1_cells))] sz) [(q_t, .inr (1, [.ref q_t_values])), (q_t_values, .inl (G.2 0, 128, .inl o_t_values)), (q_a1, .inr (3, [.ref q_a1_cells, .int a1_size])), (q_a1_cells, .inl (G.2 0, 49, .inl a1_cells))] t) (va_A [(q_t, .inr (1, [.ref q_t_values])), (q_t_values, .inl (G.2 0, 128, .inl t_values)), (q_a1, .inr (3, [.ref q_a1_cells, .int a1_size])), (q_a1_cells, .inl (G.2 0, 49, .inl a1_cells))] sz)) 0 0 (va_A [(q_t, .inr (1, [.ref q_t_values])), (q_t_values, .inl (G.2 0, 128, .inl t_values)), (q_a1, .inr (3, [.ref q_a1_cells, .int a1_size])), (q_a1_cells, .inl (G.2 0, 49, .inl a1_cells))] sz) := by
  refine Met.ofW (cc := cX2_findGreatestSums) (maxL := 7) (ret := none) (by decide) rfl ?_
  intro p e s m args below meth c s₁ B hml hv
  obtain ⟨rfl, hsz, hP, hK, hD0⟩ := hv
  subst hsz
  have hD := hD0.self (sz := s.heap.size)
  generalize hAe : va_A [(q_t, .inr (1, [.ref q_t_values])), (q_t_values, .inl (G.2 0, 128, .inl t_values)), (q_a1, .inr (3, [.ref q_a1_cells, .int a1_size])), (q_a1_cells, .inl (G.2 0, 49, .inl a1_cells))] s.heap.size = A at hD ⊢
  have hA : ∀ q : Nat, s.heap.size ≤ q → A q := fun q h => by rw [← hAe]; exact Or.inr h
  have hl := lv_entry ([.ref q_t, .ref q_a1]) (n := 7) (Nat.le_of_ble_eq_true rfl)
  rw [lg_entry_eq]
  refine k_X2_findGreatestSums ⟨B.exec, B.bytes, hml, findClass_of_methodNamed B.named, atoms_spec (ws := wsX2_findGreatestSums) B.pre⟩ G hK hA q_t q_t_values q_a1 q_a1_cells _ _ _ _ h ?_ _ _ _ hP hD va_S.rf hl
  intro H locs ls pc hd hP hD hS
  exact W.vret B.exec B.bytes B.returns (fun t ht hW => ⟨⟨(), rfl, trivial, by rw [ht]; exact hP, hD⟩, hS.F ht⟩) hS.2.2 hd B.notSynchronized
def f_X2_diagonalOfGreatestSum_L2 (x3 : Int32) (x4 : Int32) (t_values : Nat → Int32) (a1_size : Int32) (a1_cells : Nat → Int32) : Int32 → Option (Int32 ⊕ Int32)
  | x5 =>
    (f_X4_size a1_size).bind (fun r_4 =>
    if (r_4 - (1 : Int32)) ≤ x5 then
      some (.inr x5)
    else
      (f_X2_sumThrough t_values a1_size a1_cells x4 x5 x3).bind (fun r_7 =>
      (f_X2_of t_values x3).bind (fun r_9 =>
      if r_9 ≤ r_7 then
        some (.inr x5)
      else
        pl ((x5 + (1 : Int32)) : Int32) (fun x5_12 =>
        some (.inl x5_12)))))
def f_X2_diagonalOfGreatestSum_L1 (t_values : Nat → Int32) (a1_size : Int32) (a1_cells : Nat → Int32) : (Int32 × Int32 × Int32) → Option ((Int32 × Int32 × Int32) ⊕ Int32)
  | (x2, x3, x4) =>
    (f_X4_size a1_size).bind (fun r_1 =>
    if r_1 ≤ x4 then
      some (.inr x2)
    else
      (lpN (f_X2_diagonalOfGreatestSum_L2 x3 x4 t_values a1_size a1_cells) FU (0 : Int32)).bind (fun x5_13 =>
      pl (((x2 * (10 : Int32)) + x5_13) : Int32) (fun x2_16 =>
      pl ((x3 ||| ((1 : Int32) <<< (x5_13 &&& 31))) : Int32) (fun x3_17 =>
      pl ((x4 + (1 : Int32)) : Int32) (fun x4_18 =>
      some (.inl (x2_16, x3_17, x4_18)))))))
def f_X2_diagonalOfGreatestSum (t_values : Nat → Int32) (a1_size : Int32) (a1_cells : Nat → Int32) : Option Int32 :=
  (lpN (f_X2_diagonalOfGreatestSum_L1 t_values a1_size a1_cells) FU ((0 : Int32), (0 : Int32), (0 : Int32))).bind (fun x2_19 =>
  some x2_19)
set_option maxHeartbeats 4000000 in
set_option maxRecDepth 100000 in
theorem l_X2_diagonalOfGreatestSum_2 {p : Program} {l : Launch} {e : Env} {s : State} {m : MethodId} {args : Array Value} {below : List Frame} {meth : Method} {c : Code} {Q : State → Prop} {A0 : Nat → Prop} {H0 : Heap} (C : CallFix p m c cX2_diagonalOfGreatestSum 6 s args wsX2_diagonalOfGreatestSum RX2) (G : GT) (hK : gK G s) (hA : ∀ q : Nat, H0.size ≤ q → A0 q) (q_t q_t_values q_a1 q_a1_cells : Nat) (x2 : Int32) (x3 : Int32) (x4 : Int32) (t_values : Nat → Int32) (a1_size : Int32) (a1_cells : Nat → Int32) (E_x5 : Int32) (K : ∀ (H : Heap) (locs : List Loc) (ls : Array Slot), va_P G.1 vwCl [(q_t, .inr (1, [.ref q_t_values])), (q_t_values, .inl (G.2 0, 128, .inl t_values)), (q_a1, .inr (3, [.ref q_a1_cells, .int a1_size])), (q_a1_cells, .inl (G.2 0, 49, .inl a1_cells))] H → va_D A0 [(q_t, .inr (1, [.ref q_t_values])), (q_t_values, .inl (G.2 0, 128, .inl t_values)), (q_a1, .inr (3, [.ref q_a1_cells, .int a1_size])), (q_a1_cells, .inl (G.2 0, 49, .inl a1_cells))] → va_S A0 H0 H locs → lv_has ls 6 [(0, .ref q_t), (1, .ref q_a1), (2, .int x2), (3, .int x3), (4, .int x4), (5, .int E_x5)] → W p l e ({ frames := 3, cells := 0, slots := 0, locals := 68 } : Room) s m args below meth c H locs 0 0 Q (F0 m 54 ls [])) : ∀ (n : Nat) (x5 : Int32), lpN (f_X2_diagonalOfGreatestSum_L2 x3 x4 t_values a1_size a1_cells) n x5 = some E_x5 → ∀ (H : Heap) (locs : List Loc) (ls : Array Slot), va_P G.1 vwCl [(q_t, .inr (1, [.ref q_t_values])), (q_t_values, .inl (G.2 0, 128, .inl t_values)), (q_a1, .inr (3, [.ref q_a1_cells, .int a1_size])), (q_a1_cells, .inl (G.2 0, 49, .inl a1_cells))] H → va_D A0 [(q_t, .inr (1, [.ref q_t_values])), (q_t_values, .inl (G.2 0, 128, .inl t_values)), (q_a1, .inr (3, [.ref q_a1_cells, .int a1_size])), (q_a1_cells, .inl (G.2 0, 49, .inl a1_cells))] → va_S A0 H0 H locs → lv_has ls 6 [(0, .ref q_t), (1, .ref q_a1), (2, .int x2), (3, .int x3), (4, .int x4), (5, .int x5)] → W p l e ({ frames := 3, cells := 0, slots := 0, locals := 68 } : Room) s m args below meth c H locs 0 0 Q (F0 m 19 ls []) := by
  obtain ⟨hx, hb, hml, hown, hts⟩ := C
  intro n
  induction n with
  | zero => intro x5 h; exact absurd h (fun h => lp_0 h)
  | succ n ih =>
    intro x5 h H locs ls hP hD hS hl
    obtain ⟨y, h, hk⟩ := lp_s h
    rw [f_X2_diagonalOfGreatestSum_L2] at h
    refine lv_iload hx hb dX2_diagonalOfGreatestSum_19 (lv_at hl 5 rfl) ?_
    refine lv_aload_n hx hb dX2_diagonalOfGreatestSum_21 rfl (lv_at hl 1 rfl) ?_
    obtain ⟨r_4, hf_5, h⟩ := bd_ok h
    refine ck_Vi (rest := [.int x5]) (wn := [(q_t, .inr (1, [.ref q_t_values])), (q_t_values, .inl (G.2 0, 128, .inl t_values)), (q_a1, .inr (3, [.ref q_a1_cells, .int a1_size])), (q_a1_cells, .inl (G.2 0, 49, .inl a1_cells))]) ⟨hx, hb, hml, hown, hts⟩ hK hP hD hS hA [2] [0, 1, 3] [0, 1, 3, 2] (c_X4_size l G q_a1 q_a1_cells _ a1_size _ hf_5) (cwV 0 hts gX2_diagonalOfGreatestSum_X4_size rfl rfl rfl (by decide +kernel) ⟨Nat.le_of_ble_eq_true rfl, Nat.le_of_ble_eq_true rfl⟩) rfl rfl rfl rfl rfl rfl (by decide) rfl rfl rfl hl.1 rfl (Nat.le_of_ble_eq_true rfl) dX2_diagonalOfGreatestSum_22 ⟨Nat.zero_le _, Nat.zero_le _⟩ (fun H locs hP hD hS => ?_)
    refine lv_iconst (v := 1) hx hb dX2_diagonalOfGreatestSum_25 (by decide) ?_
    refine lv_isub hx hb dX2_diagonalOfGreatestSum_26 ?_
    refine lv_icmp_ge (tgt := 54) hx hb dX2_diagonalOfGreatestSum_27 (by decide) (fun c_6 => ?_) (fun c_6 => ?_)
    · replace h := it_t h c_6
      obtain rfl := sm1 h
      obtain rfl := sm1 hk
      exact K H locs ls hP hD hS (lv_sub hl [0, 1, 2, 3, 4, 5] rfl)
    · replace h := it_f h c_6
      refine lv_aload_n hx hb dX2_diagonalOfGreatestSum_30 rfl (lv_at hl 0 rfl) ?_
      refine lv_aload_n hx hb dX2_diagonalOfGreatestSum_31 rfl (lv_at hl 1 rfl) ?_
      refine lv_iload hx hb dX2_diagonalOfGreatestSum_32 (lv_at hl 4 rfl) ?_
      refine lv_iload hx hb dX2_diagonalOfGreatestSum_34 (lv_at hl 5 rfl) ?_
      refine lv_iload_n hx hb dX2_diagonalOfGreatestSum_36 rfl (lv_at hl 3 rfl) ?_
      obtain ⟨r_7, hf_8, h⟩ := bd_ok h
      refine ck_Vi (rest := []) (wn := [(q_t, .inr (1, [.ref q_t_values])), (q_t_values, .inl (G.2 0, 128, .inl t_values)), (q_a1, .inr (3, [.ref q_a1_cells, .int a1_size])), (q_a1_cells, .inl (G.2 0, 49, .inl a1_cells))]) ⟨hx, hb, hml, hown, hts⟩ hK hP hD hS hA [0, 1, 2, 3] [] [0, 1, 2, 3] (c_X2_sumThrough l G q_t q_t_values q_a1 q_a1_cells _ t_values a1_size a1_cells x4 x5 x3 _ hf_8) (cwV 4 hts gX2_diagonalOfGreatestSum_X2_sumThrough rfl rfl rfl (by decide +kernel) ⟨Nat.le_of_ble_eq_true rfl, Nat.le_of_ble_eq_true rfl⟩) rfl rfl rfl rfl rfl rfl (by decide) rfl rfl rfl hl.1 rfl (Nat.le_of_ble_eq_true rfl) dX2_diagonalOfGreatestSum_37 ⟨Nat.zero_le _, Nat.zero_le _⟩ (fun H locs hP hD hS => ?_)
      refine lv_aload_n hx hb dX2_diagonalOfGreatestSum_40 rfl (lv_at hl 0 rfl) ?_
      refine lv_iload_n hx hb dX2_diagonalOfGreatestSum_41 rfl (lv_at hl 3 rfl) ?_
      obtain ⟨r_9, hf_10, h⟩ := bd_ok h
      refine ck_Vi (rest := [.int r_7]) (wn := [(q_t, .inr (1, [.ref q_t_values])), (q_t_values, .inl (G.2 0, 128, .inl t_values)), (q_a1, .inr (3, [.ref q_a1_cells, .int a1_size])), (q_a1_cells, .inl (G.2 0, 49, .inl a1_cells))]) ⟨hx, hb, hml, hown, hts⟩ hK hP hD hS hA [0, 1] [2, 3] [2, 3, 0, 1] (c_X2_of l G q_t q_t_values _ t_values x3 _ hf_10) (cwV 1 hts gX2_diagonalOfGreatestSum_X2_of rfl rfl rfl (by decide +kernel) ⟨Nat.le_of_ble_eq_true rfl, Nat.le_of_ble_eq_true rfl⟩) rfl rfl rfl rfl rfl rfl (by decide) rfl rfl rfl hl.1 rfl (Nat.le_of_ble_eq_true rfl) dX2_diagonalOfGreatestSum_42 ⟨Nat.zero_le _, Nat.zero_le _⟩ (fun H locs hP hD hS => ?_)
      refine lv_icmp_ge (tgt := 54) hx hb dX2_diagonalOfGreatestSum_45 (by decide) (fun c_11 => ?_) (fun c_11 => ?_)
      · replace h := it_t h c_11
        obtain rfl := sm1 h
        obtain rfl := sm1 hk
        exact K H locs ls hP hD hS (lv_sub hl [0, 1, 2, 3, 4, 5] rfl)
      · replace h := it_f h c_11
        obtain ⟨x5_12, ex5_12, h⟩ := pl_ok h
        refine lv_iinc (v := x5_12) (lv' := [(5, .int x5_12), (0, .ref q_t), (1, .ref q_a1), (2, .int x2), (3, .int x3), (4, .int x4)]) hx hb dX2_diagonalOfGreatestSum_48 hl (k := 5) rfl (by rw [ex5_12]; rfl) (by decide) rfl (fun ls hl => ?_)
        refine lv_goto (tgt := 19) hx hb dX2_diagonalOfGreatestSum_51 (by decide) ?_
        obtain rfl := sm1 h
        exact ih x5_12 hk H locs ls hP hD hS (lv_sub hl [1, 2, 3, 4, 5, 0] rfl)
set_option maxHeartbeats 4000000 in
set_option maxRecDepth 100000 in
theorem l_X2_diagonalOfGreatestSum_1 {p : Program} {l : Launch} {e : Env} {s : State} {m : MethodId} {args : Array Value} {below : List Frame} {meth : Method} {c : Code} {Q : State → Prop} {A0 : Nat → Prop} {H0 : Heap} (C : CallFix p m c cX2_diagonalOfGreatestSum 6 s args wsX2_diagonalOfGreatestSum RX2) (G : GT) (hK : gK G s) (hA : ∀ q : Nat, H0.size ≤ q → A0 q) (q_t q_t_values q_a1 q_a1_cells : Nat) (t_values : Nat → Int32) (a1_size : Int32) (a1_cells : Nat → Int32) (E_x2 : Int32) (K : ∀ (H : Heap) (locs : List Loc) (ls : Array Slot), va_P G.1 vwCl [(q_t, .inr (1, [.ref q_t_values])), (q_t_values, .inl (G.2 0, 128, .inl t_values)), (q_a1, .inr (3, [.ref q_a1_cells, .int a1_size])), (q_a1_cells, .inl (G.2 0, 49, .inl a1_cells))] H → va_D A0 [(q_t, .inr (1, [.ref q_t_values])), (q_t_values, .inl (G.2 0, 128, .inl t_values)), (q_a1, .inr (3, [.ref q_a1_cells, .int a1_size])), (q_a1_cells, .inl (G.2 0, 49, .inl a1_cells))] → va_S A0 H0 H locs → lv_has ls 6 [(2, .int E_x2)] → W p l e ({ frames := 3, cells := 0, slots := 0, locals := 68 } : Room) s m args below meth c H locs 0 0 Q (F0 m 75 ls [])) : ∀ (n : Nat) (x2 : Int32) (x3 : Int32) (x4 : Int32), lpN (f_X2_diagonalOfGreatestSum_L1 t_values a1_size a1_cells) n (x2, x3, x4) = some E_x2 → ∀ (H : Heap) (locs : List Loc) (ls : Array Slot), va_P G.1 vwCl [(q_t, .inr (1, [.ref q_t_values])), (q_t_values, .inl (G.2 0, 128, .inl t_values)), (q_a1, .inr (3, [.ref q_a1_cells, .int a1_size])), (q_a1_cells, .inl (G.2 0, 49, .inl a1_cells))] H → va_D A0 [(q_t, .inr (1, [.ref q_t_values])), (q_t_values, .inl (G.2 0, 128, .inl t_values)), (q_a1, .inr (3, [.ref q_a1_cells, .int a1_size])), (q_a1_cells, .inl (G.2 0, 49, .inl a1_cells))] → va_S A0 H0 H locs → lv_has ls 6 [(0, .ref q_t), (1, .ref q_a1), (2, .int x2), (3, .int x3), (4, .int x4)] → W p l e ({ frames := 3, cells := 0, slots := 0, locals := 68 } : Room) s m args below meth c H locs 0 0 Q (F0 m 7 ls []) := by
  obtain ⟨hx, hb, hml, hown, hts⟩ := C
  intro n
  induction n with
  | zero => intro x2 x3 x4 h; exact absurd h (fun h => lp_0 h)
  | succ n ih =>
    intro x2 x3 x4 h H locs ls hP hD hS hl
    obtain ⟨y, h, hk⟩ := lp_s h
    rw [f_X2_diagonalOfGreatestSum_L1] at h
    refine lv_iload hx hb dX2_diagonalOfGreatestSum_7 (lv_at hl 4 rfl) ?_
    refine lv_aload_n hx hb dX2_diagonalOfGreatestSum_9 rfl (lv_at hl 1 rfl) ?_
    obtain ⟨r_1, hf_2, h⟩ := bd_ok h
    refine ck_Vi (rest := [.int x4]) (wn := [(q_t, .inr (1, [.ref q_t_values])), (q_t_values, .inl (G.2 0, 128, .inl t_values)), (q_a1, .inr (3, [.ref q_a1_cells, .int a1_size])), (q_a1_cells, .inl (G.2 0, 49, .inl a1_cells))]) ⟨hx, hb, hml, hown, hts⟩ hK hP hD hS hA [2] [0, 1, 3] [0, 1, 3, 2] (c_X4_size l G q_a1 q_a1_cells _ a1_size _ hf_2) (cwV 0 hts gX2_diagonalOfGreatestSum_X4_size rfl rfl rfl (by decide +kernel) ⟨Nat.le_of_ble_eq_true rfl, Nat.le_of_ble_eq_true rfl⟩) rfl rfl rfl rfl rfl rfl (by decide) rfl rfl rfl hl.1 rfl (Nat.le_of_ble_eq_true rfl) dX2_diagonalOfGreatestSum_10 ⟨Nat.zero_le _, Nat.zero_le _⟩ (fun H locs hP hD hS => ?_)
    refine lv_icmp_ge (tgt := 75) hx hb dX2_diagonalOfGreatestSum_13 (by decide) (fun c_3 => ?_) (fun c_3 => ?_)
    · replace h := it_t h c_3
      obtain rfl := sm1 h
      obtain rfl := sm1 hk
      exact K H locs ls hP hD hS (lv_sub hl [2] rfl)
    · replace h := it_f h c_3
      refine lv_iconst (v := 0) hx hb dX2_diagonalOfGreatestSum_16 (by decide) ?_
      refine lv_istore (lv' := [(5, .int (0 : Int32)), (0, .ref q_t), (1, .ref q_a1), (2, .int x2), (3, .int x3), (4, .int x4)]) hx hb dX2_diagonalOfGreatestSum_17 hl (by decide) rfl (fun ls hl => ?_)
      obtain ⟨x5_13, hz_15, h⟩ := bd_ok h
      refine l_X2_diagonalOfGreatestSum_2 ⟨hx, hb, hml, hown, hts⟩ G hK hA q_t q_t_values q_a1 q_a1_cells x2 x3 x4 t_values a1_size a1_cells x5_13 ?_ FU (0 : Int32) hz_15 H locs ls hP hD hS (lv_sub hl [1, 2, 3, 4, 5, 0] rfl)
      intro H locs ls hP hD hS hl
      refine lv_iload_n hx hb dX2_diagonalOfGreatestSum_54 rfl (lv_at hl 2 rfl) ?_
      refine lv_bipush (v := 10) hx hb dX2_diagonalOfGreatestSum_55 (by decide) ?_
      refine lv_imul hx hb dX2_diagonalOfGreatestSum_57 ?_
      refine lv_iload hx hb dX2_diagonalOfGreatestSum_58 (lv_at hl 5 rfl) ?_
      refine lv_iadd hx hb dX2_diagonalOfGreatestSum_60 ?_
      refine lv_topi (fun x2_16 ex2_16 => ?_)
      replace h := pl_v h ex2_16
      refine lv_istore_n (lv' := [(2, .int x2_16), (0, .ref q_t), (1, .ref q_a1), (3, .int x3), (4, .int x4), (5, .int x5_13)]) hx hb dX2_diagonalOfGreatestSum_61 rfl hl (by decide) rfl (fun ls hl => ?_)
      refine lv_iload_n hx hb dX2_diagonalOfGreatestSum_62 rfl (lv_at hl 3 rfl) ?_
      refine lv_iconst (v := 1) hx hb dX2_diagonalOfGreatestSum_63 (by decide) ?_
      refine lv_iload hx hb dX2_diagonalOfGreatestSum_64 (lv_at hl 5 rfl) ?_
      refine lv_ishl hx hb dX2_diagonalOfGreatestSum_66 ?_
      refine lv_ior hx hb dX2_diagonalOfGreatestSum_67 ?_
      refine lv_topi (fun x3_17 ex3_17 => ?_)
      replace h := pl_v h ex3_17
      refine lv_istore_n (lv' := [(3, .int x3_17), (2, .int x2_16), (0, .ref q_t), (1, .ref q_a1), (4, .int x4), (5, .int x5_13)]) hx hb dX2_diagonalOfGreatestSum_68 rfl hl (by decide) rfl (fun ls hl => ?_)
      obtain ⟨x4_18, ex4_18, h⟩ := pl_ok h
      refine lv_iinc (v := x4_18) (lv' := [(4, .int x4_18), (3, .int x3_17), (2, .int x2_16), (0, .ref q_t), (1, .ref q_a1), (5, .int x5_13)]) hx hb dX2_diagonalOfGreatestSum_69 hl (k := 4) rfl (by rw [ex4_18]; rfl) (by decide) rfl (fun ls hl => ?_)
      refine lv_goto (tgt := 7) hx hb dX2_diagonalOfGreatestSum_72 (by decide) ?_
      obtain rfl := sm1 h
      exact ih x2_16 x3_17 x4_18 hk H locs ls hP hD hS (lv_sub hl [3, 4, 2, 1, 0] rfl)
set_option maxHeartbeats 4000000 in
set_option maxRecDepth 100000 in
theorem k_X2_diagonalOfGreatestSum {p : Program} {l : Launch} {e : Env} {s : State} {m : MethodId} {args : Array Value} {below : List Frame} {meth : Method} {c : Code} {Q : State → Prop} {A0 : Nat → Prop} {H0 : Heap} (C : CallFix p m c cX2_diagonalOfGreatestSum 6 s args wsX2_diagonalOfGreatestSum RX2) (G : GT) (hK : gK G s) (hA : ∀ q : Nat, H0.size ≤ q → A0 q) (q_t q_t_values q_a1 q_a1_cells : Nat) (t_values : Nat → Int32) (a1_size : Int32) (a1_cells : Nat → Int32) (r : Int32) (h : f_X2_diagonalOfGreatestSum t_values a1_size a1_cells = some r) (KR : ∀ (H : Heap) (locs : List Loc) (ls : Array Slot) (pc : Nat), decode cX2_diagonalOfGreatestSum pc = .ok (.ireturn, 1) → va_P G.1 vwCl [(q_t, .inr (1, [.ref q_t_values])), (q_t_values, .inl (G.2 0, 128, .inl t_values)), (q_a1, .inr (3, [.ref q_a1_cells, .int a1_size])), (q_a1_cells, .inl (G.2 0, 49, .inl a1_cells))] H → va_D A0 [(q_t, .inr (1, [.ref q_t_values])), (q_t_values, .inl (G.2 0, 128, .inl t_values)), (q_a1, .inr (3, [.ref q_a1_cells, .int a1_size])), (q_a1_cells, .inl (G.2 0, 49, .inl a1_cells))] → va_S A0 H0 H locs → W p l e ({ frames := 3, cells := 0, slots := 0, locals := 68 } : Room) s m args below meth c H locs 0 0 Q (F0 m pc ls [.int r])) : ∀ (H : Heap) (locs : List Loc) (ls : Array Slot), va_P G.1 vwCl [(q_t, .inr (1, [.ref q_t_values])), (q_t_values, .inl (G.2 0, 128, .inl t_values)), (q_a1, .inr (3, [.ref q_a1_cells, .int a1_size])), (q_a1_cells, .inl (G.2 0, 49, .inl a1_cells))] H → va_D A0 [(q_t, .inr (1, [.ref q_t_values])), (q_t_values, .inl (G.2 0, 128, .inl t_values)), (q_a1, .inr (3, [.ref q_a1_cells, .int a1_size])), (q_a1_cells, .inl (G.2 0, 49, .inl a1_cells))] → va_S A0 H0 H locs → lv_has ls 6 [(0, .ref q_t), (1, .ref q_a1)] → W p l e ({ frames := 3, cells := 0, slots := 0, locals := 68 } : Room) s m args below meth c H locs 0 0 Q (F0 m 0 ls []) := by
  obtain ⟨hx, hb, hml, hown, hts⟩ := C
  intro H locs ls hP hD hS hl
  rw [f_X2_diagonalOfGreatestSum] at h
  refine lv_iconst (v := 0) hx hb dX2_diagonalOfGreatestSum_0 (by decide) ?_
  refine lv_istore_n (lv' := [(2, .int (0 : Int32)), (0, .ref q_t), (1, .ref q_a1)]) hx hb dX2_diagonalOfGreatestSum_1 rfl hl (by decide) rfl (fun ls hl => ?_)
  refine lv_iconst (v := 0) hx hb dX2_diagonalOfGreatestSum_2 (by decide) ?_
  refine lv_istore_n (lv' := [(3, .int (0 : Int32)), (2, .int (0 : Int32)), (0, .ref q_t), (1, .ref q_a1)]) hx hb dX2_diagonalOfGreatestSum_3 rfl hl (by decide) rfl (fun ls hl => ?_)
  refine lv_iconst (v := 0) hx hb dX2_diagonalOfGreatestSum_4 (by decide) ?_
  refine lv_istore (lv' := [(4, .int (0 : Int32)), (3, .int (0 : Int32)), (2, .int (0 : Int32)), (0, .ref q_t), (1, .ref q_a1)]) hx hb dX2_diagonalOfGreatestSum_5 hl (by decide) rfl (fun ls hl => ?_)
  obtain ⟨x2_19, hz_21, h⟩ := bd_ok h
  refine l_X2_diagonalOfGreatestSum_1 ⟨hx, hb, hml, hown, hts⟩ G hK hA q_t q_t_values q_a1 q_a1_cells t_values a1_size a1_cells x2_19 ?_ FU (0 : Int32) (0 : Int32) (0 : Int32) hz_21 H locs ls hP hD hS (lv_sub hl [3, 4, 2, 1, 0] rfl)
  intro H locs ls hP hD hS hl
  refine lv_iload_n hx hb dX2_diagonalOfGreatestSum_75 rfl (lv_at hl 0 rfl) ?_
  obtain rfl := sm1 h
  exact KR H locs ls 76 dX2_diagonalOfGreatestSum_76 hP hD hS
set_option maxHeartbeats 4000000 in
set_option maxRecDepth 100000 in
theorem c_X2_diagonalOfGreatestSum (l : Launch) (G : GT) (q_t q_t_values q_a1 q_a1_cells : Nat) (sz : Nat) (t_values : Nat → Int32) (a1_size : Int32) (a1_cells : Nat → Int32) (r : Int32) (h : f_X2_diagonalOfGreatestSum t_values a1_size a1_cells = some r) : Met l yX2_diagonalOfGreatestSum wsX2_diagonalOfGreatestSum ({ frames := 3, cells := 0, slots := 0, locals := 68 } : Room) (va_Pc [.ref q_t, .ref q_a1] (pcW G [(q_t, .inr (1, [.ref q_t_values])), (q_t_values, .inl (G.2 0, 128, .inl t_values)), (q_a1, .inr (3, [.ref q_a1_cells, .int a1_size])), (q_a1_cells, .inl (G.2 0, 49, .inl a1_cells))] sz)) (va_Qi (fun r9 (_ : Unit) => r9 = r) (fun _ t => atW G (va_A [(q_t, .inr (1, [.ref q_t_values])), (q_t_values, .inl (G.2 0, 128, .inl t_values)), (q_a1, .inr (3, [.ref q_a1_cells, .int a1_size])), (q_a1_cells, .inl (G.2 0, 49, .inl a1_cells))] sz) [(q_t, .inr (1, [.ref q_t_values])), (q_t_values, .inl (G.2 0, 128, .inl t_values)), (q_a1, .inr (3, [.ref q_a1_cells, .int a1_size])), (q_a1_cells, .inl (G.2 0, 49, .inl a1_cells))] t) (va_A [(q_t, .inr (1, [.ref q_t_values])), (q_t_values, .inl (G.2 0, 128, .inl t_values)), (q_a1, .inr (3, [.ref q_a1_cells, .int a1_size])), (q_a1_cells, .inl (G.2 0, 49, .inl a1_cells))] sz)) 0 0 (va_A [(q_t, .inr (1, [.ref q_t_values])), (q_t_values, .inl (G.2 0, 128, .inl t_values)), (q_a1, .inr (3, [.ref q_a1_cells, .int a1_size])), (q_a1_cells, .inl (G.2 0, 49, .inl a1_cells))] sz) := by
  refine Met.ofW (cc := cX2_diagonalOfGreatestSum) (maxL := 6) (ret := (some .int)) (by decide) rfl ?_
  intro p e s m args below meth c s₁ B hml hv
  obtain ⟨rfl, hsz, hP, hK, hD0⟩ := hv
  subst hsz
  have hD := hD0.self (sz := s.heap.size)
  generalize hAe : va_A [(q_t, .inr (1, [.ref q_t_values])), (q_t_values, .inl (G.2 0, 128, .inl t_values)), (q_a1, .inr (3, [.ref q_a1_cells, .int a1_size])), (q_a1_cells, .inl (G.2 0, 49, .inl a1_cells))] s.heap.size = A at hD ⊢
  have hA : ∀ q : Nat, s.heap.size ≤ q → A q := fun q h => by rw [← hAe]; exact Or.inr h
  have hl := lv_entry ([.ref q_t, .ref q_a1]) (n := 6) (Nat.le_of_ble_eq_true rfl)
  rw [lg_entry_eq]
  refine k_X2_diagonalOfGreatestSum ⟨B.exec, B.bytes, hml, findClass_of_methodNamed B.named, atoms_spec (ws := wsX2_diagonalOfGreatestSum) B.pre⟩ G hK hA q_t q_t_values q_a1 q_a1_cells _ _ _ _ h ?_ _ _ _ hP hD va_S.rf hl
  intro H locs ls pc hd hP hD hS
  exact W.iret B.exec B.bytes B.returns (fun t ht hW => ⟨⟨r, (), rfl, rfl, by rw [ht]; exact hP, hD⟩, hS.F ht⟩) hS.2.2 hd B.notSynchronized
