set_option maxRecDepth 20000 in
theorem wd_X4_sumOfRow_1 : Cond.fieldLink RX4 15 "PermanentDesk$Matrix" "size" "I" ∈ wsX4_sumOfRow := List.mem_of_getElem? (i := 1) (by decide +kernel)
set_option maxRecDepth 20000 in
theorem wi_X4_sumOfRow_X4 : ∀ w ∈ u_ws RX4 TX4 2, w ∈ wsX4_sumOfRow := by decide +kernel
def f_X4_sumOfRow_L1 (x1 : Int32) (t_size : Int32) (t_cells : Nat → Int32) : (Int32 × Int32) → Option ((Int32 × Int32) ⊕ Int32)
  | (x2, x3) =>
    if t_size ≤ x3 then
      some (.inr x2)
    else
      (f_X4_at t_size t_cells x1 x3).bind (fun r_2 =>
      pl ((x2 + r_2) : Int32) (fun x2_4 =>
      pl ((x3 + (1 : Int32)) : Int32) (fun x3_5 =>
      some (.inl (x2_4, x3_5)))))
def f_X4_sumOfRow (t_size : Int32) (t_cells : Nat → Int32) (a1 : Int32) : Option Int32 :=
  (lpN (f_X4_sumOfRow_L1 a1 t_size t_cells) FU ((0 : Int32), (0 : Int32))).bind (fun x2_6 =>
  some x2_6)
set_option maxHeartbeats 4000000 in
set_option maxRecDepth 100000 in
theorem l_X4_sumOfRow_1 {p : Program} {l : Launch} {e : Env} {s : State} {m : MethodId} {args : Array Value} {below : List Frame} {meth : Method} {c : Code} {Q : State → Prop} {A0 : Nat → Prop} {H0 : Heap} (C : CallFix p m c cX4_sumOfRow 4 s args wsX4_sumOfRow RX4) (G : GT) (hK : gK G s) (hA : ∀ q : Nat, H0.size ≤ q → A0 q) (q_t q_t_cells : Nat) (x1 : Int32) (t_size : Int32) (t_cells : Nat → Int32) (E_x2 : Int32) (K : ∀ (H : Heap) (locs : List Loc) (ls : Array Slot), va_P G.1 vwCl [(q_t, .inr (3, [.ref q_t_cells, .int t_size])), (q_t_cells, .inl (G.2 0, 49, .inl t_cells))] H → va_D A0 [(q_t, .inr (3, [.ref q_t_cells, .int t_size])), (q_t_cells, .inl (G.2 0, 49, .inl t_cells))] → va_S A0 H0 H locs → lv_has ls 4 [(2, .int E_x2)] → W p l e ({ frames := 2, cells := 0, slots := 0, locals := 43 } : Room) s m args below meth c H locs 0 0 Q (F0 m 27 ls [])) : ∀ (n : Nat) (x2 : Int32) (x3 : Int32), lpN (f_X4_sumOfRow_L1 x1 t_size t_cells) n (x2, x3) = some E_x2 → ∀ (H : Heap) (locs : List Loc) (ls : Array Slot), va_P G.1 vwCl [(q_t, .inr (3, [.ref q_t_cells, .int t_size])), (q_t_cells, .inl (G.2 0, 49, .inl t_cells))] H → va_D A0 [(q_t, .inr (3, [.ref q_t_cells, .int t_size])), (q_t_cells, .inl (G.2 0, 49, .inl t_cells))] → va_S A0 H0 H locs → lv_has ls 4 [(0, .ref q_t), (1, .int x1), (2, .int x2), (3, .int x3)] → W p l e ({ frames := 2, cells := 0, slots := 0, locals := 43 } : Room) s m args below meth c H locs 0 0 Q (F0 m 4 ls []) := by
  obtain ⟨hx, hb, hml, hown, hts⟩ := C
  intro n
  induction n with
  | zero => intro x2 x3 h; exact absurd h (fun h => lp_0 h)
  | succ n ih =>
    intro x2 x3 h H locs ls hP hD hS hl
    obtain ⟨y, h, hk⟩ := lp_s h
    rw [f_X4_sumOfRow_L1] at h
    refine lv_iload_n hx hb dX4_sumOfRow_4 rfl (lv_at hl 3 rfl) ?_
    refine lv_aload_n hx hb dX4_sumOfRow_5 rfl (lv_at hl 0 rfl) ?_
    refine va_get (D := G.1) (ci := 3) (v := .int t_size) (C := RX4) (T := TX4) (N := 2) hx hb hts wi_X4_sumOfRow_X4 hown hK hP 0 rfl rfl 1 (by decide) (hts _ wd_X4_sumOfRow_1) (fun _ h9 => h9) rfl dX4_sumOfRow_6 ?_
    refine lv_icmp_ge (tgt := 27) hx hb dX4_sumOfRow_9 (by decide) (fun c_1 => ?_) (fun c_1 => ?_)
    · replace h := it_t h c_1
      obtain rfl := sm1 h
      obtain rfl := sm1 hk
      exact K H locs ls hP hD hS (lv_sub hl [2] rfl)
    · replace h := it_f h c_1
      refine lv_iload_n hx hb dX4_sumOfRow_12 rfl (lv_at hl 2 rfl) ?_
      refine lv_aload_n hx hb dX4_sumOfRow_13 rfl (lv_at hl 0 rfl) ?_
      refine lv_iload_n hx hb dX4_sumOfRow_14 rfl (lv_at hl 1 rfl) ?_
      refine lv_iload_n hx hb dX4_sumOfRow_15 rfl (lv_at hl 3 rfl) ?_
      obtain ⟨r_2, hf_3, h⟩ := bd_ok h
      refine ck_Vi (rest := [.int x2]) (wn := [(q_t, .inr (3, [.ref q_t_cells, .int t_size])), (q_t_cells, .inl (G.2 0, 49, .inl t_cells))]) ⟨hx, hb, hml, hown, hts⟩ hK hP hD hS hA [0, 1] [] [0, 1] (c_X4_at l G q_t q_t_cells _ t_size t_cells x1 x3 _ hf_3) (cwV 2 hts gX4_sumOfRow_X4_at rfl rfl rfl (by decide +kernel) ⟨Nat.le_of_ble_eq_true rfl, Nat.le_of_ble_eq_true rfl⟩) rfl rfl rfl rfl rfl rfl (by decide) rfl rfl rfl hl.1 rfl (Nat.le_of_ble_eq_true rfl) dX4_sumOfRow_16 ⟨Nat.zero_le _, Nat.zero_le _⟩ (fun H locs hP hD hS => ?_)
      refine lv_iadd hx hb dX4_sumOfRow_19 ?_
      refine lv_topi (fun x2_4 ex2_4 => ?_)
      replace h := pl_v h ex2_4
      refine lv_istore_n (lv' := [(2, .int x2_4), (0, .ref q_t), (1, .int x1), (3, .int x3)]) hx hb dX4_sumOfRow_20 rfl hl (by decide) rfl (fun ls hl => ?_)
      obtain ⟨x3_5, ex3_5, h⟩ := pl_ok h
      refine lv_iinc (v := x3_5) (lv' := [(3, .int x3_5), (2, .int x2_4), (0, .ref q_t), (1, .int x1)]) hx hb dX4_sumOfRow_21 hl (k := 3) rfl (by rw [ex3_5]; rfl) (by decide) rfl (fun ls hl => ?_)
      refine lv_goto (tgt := 4) hx hb dX4_sumOfRow_24 (by decide) ?_
      obtain rfl := sm1 h
      exact ih x2_4 x3_5 hk H locs ls hP hD hS (lv_sub hl [2, 3, 1, 0] rfl)
set_option maxHeartbeats 4000000 in
set_option maxRecDepth 100000 in
theorem k_X4_sumOfRow {p : Program} {l : Launch} {e : Env} {s : State} {m : MethodId} {args : Array Value} {below : List Frame} {meth : Method} {c : Code} {Q : State → Prop} {A0 : Nat → Prop} {H0 : Heap} (C : CallFix p m c cX4_sumOfRow 4 s args wsX4_sumOfRow RX4) (G : GT) (hK : gK G s) (hA : ∀ q : Nat, H0.size ≤ q → A0 q) (q_t q_t_cells : Nat) (t_size : Int32) (t_cells : Nat → Int32) (a1 : Int32) (r : Int32) (h : f_X4_sumOfRow t_size t_cells a1 = some r) (KR : ∀ (H : Heap) (locs : List Loc) (ls : Array Slot) (pc : Nat), decode cX4_sumOfRow pc = .ok (.ireturn, 1) → va_P G.1 vwCl [(q_t, .inr (3, [.ref q_t_cells, .int t_size])), (q_t_cells, .inl (G.2 0, 49, .inl t_cells))] H → va_D A0 [(q_t, .inr (3, [.ref q_t_cells, .int t_size])), (q_t_cells, .inl (G.2 0, 49, .inl t_cells))] → va_S A0 H0 H locs → W p l e ({ frames := 2, cells := 0, slots := 0, locals := 43 } : Room) s m args below meth c H locs 0 0 Q (F0 m pc ls [.int r])) : ∀ (H : Heap) (locs : List Loc) (ls : Array Slot), va_P G.1 vwCl [(q_t, .inr (3, [.ref q_t_cells, .int t_size])), (q_t_cells, .inl (G.2 0, 49, .inl t_cells))] H → va_D A0 [(q_t, .inr (3, [.ref q_t_cells, .int t_size])), (q_t_cells, .inl (G.2 0, 49, .inl t_cells))] → va_S A0 H0 H locs → lv_has ls 4 [(0, .ref q_t), (1, .int a1)] → W p l e ({ frames := 2, cells := 0, slots := 0, locals := 43 } : Room) s m args below meth c H locs 0 0 Q (F0 m 0 ls []) := by
  obtain ⟨hx, hb, hml, hown, hts⟩ := C
  intro H locs ls hP hD hS hl
  rw [f_X4_sumOfRow] at h
  refine lv_iconst (v := 0) hx hb dX4_sumOfRow_0 (by decide) ?_
  refine lv_istore_n (lv' := [(2, .int (0 : Int32)), (0, .ref q_t), (1, .int a1)]) hx hb dX4_sumOfRow_1 rfl hl (by decide) rfl (fun ls hl => ?_)
  refine lv_iconst (v := 0) hx hb dX4_sumOfRow_2 (by decide) ?_
  refine lv_istore_n (lv' := [(3, .int (0 : Int32)), (2, .int (0 : Int32)), (0, .ref q_t), (1, .int a1)]) hx hb dX4_sumOfRow_3 rfl hl (by decide) rfl (fun ls hl => ?_)
  obtain ⟨x2_6, hz_8, h⟩ := bd_ok h
  refine l_X4_sumOfRow_1 ⟨hx, hb, hml, hown, hts⟩ G hK hA q_t q_t_cells a1 t_size t_cells x2_6 ?_ FU (0 : Int32) (0 : Int32) hz_8 H locs ls hP hD hS (lv_sub hl [2, 3, 1, 0] rfl)
  intro H locs ls hP hD hS hl
  refine lv_iload_n hx hb dX4_sumOfRow_27 rfl (lv_at hl 0 rfl) ?_
  obtain rfl := sm1 h
  exact KR H locs ls 28 dX4_sumOfRow_28 hP hD hS
set_option maxHeartbeats 4000000 in
set_option maxRecDepth 100000 in
theorem c_X4_sumOfRow (l : Launch) (G : GT) (q_t q_t_cells : Nat) (sz : Nat) (t_size : Int32) (t_cells : Nat → Int32) (a1 : Int32) (r : Int32) (h : f_X4_sumOfRow t_size t_cells a1 = some r) : Met l yX4_sumOfRow wsX4_sumOfRow ({ frames := 2, cells := 0, slots := 0, locals := 43 } : Room) (va_Pc [.ref q_t, .int a1] (pcW G [(q_t, .inr (3, [.ref q_t_cells, .int t_size])), (q_t_cells, .inl (G.2 0, 49, .inl t_cells))] sz)) (va_Qi (fun r9 (_ : Unit) => r9 = r) (fun _ t => atW G (va_A [(q_t, .inr (3, [.ref q_t_cells, .int t_size])), (q_t_cells, .inl (G.2 0, 49, .inl t_cells))] sz) [(q_t, .inr (3, [.ref q_t_cells, .int t_size])), (q_t_cells, .inl (G.2 0, 49, .inl t_cells))] t) (va_A [(q_t, .inr (3, [.ref q_t_cells, .int t_size])), (q_t_cells, .inl (G.2 0, 49, .inl t_cells))] sz)) 0 0 (va_A [(q_t, .inr (3, [.ref q_t_cells, .int t_size])), (q_t_cells, .inl (G.2 0, 49, .inl t_cells))] sz) := by
  refine Met.ofW (cc := cX4_sumOfRow) (maxL := 4) (ret := (some .int)) (by decide) rfl ?_
  intro p e s m args below meth c s₁ B hml hv
  obtain ⟨rfl, hsz, hP, hK, hD0⟩ := hv
  subst hsz
  have hD := hD0.self (sz := s.heap.size)
  generalize hAe : va_A [(q_t, .inr (3, [.ref q_t_cells, .int t_size])), (q_t_cells, .inl (G.2 0, 49, .inl t_cells))] s.heap.size = A at hD ⊢
  have hA : ∀ q : Nat, s.heap.size ≤ q → A q := fun q h => by rw [← hAe]; exact Or.inr h
  have hl := lv_entry ([.ref q_t, .int a1]) (n := 4) (Nat.le_of_ble_eq_true rfl)
  rw [lg_entry_eq]
  refine k_X4_sumOfRow ⟨B.exec, B.bytes, hml, findClass_of_methodNamed B.named, atoms_spec (ws := wsX4_sumOfRow) B.pre⟩ G hK hA q_t q_t_cells _ _ _ _ h ?_ _ _ _ hP hD va_S.rf hl
  intro H locs ls pc hd hP hD hS
  exact W.iret B.exec B.bytes B.returns (fun t ht hW => ⟨⟨r, (), rfl, rfl, by rw [ht]; exact hP, hD⟩, hS.F ht⟩) hS.2.2 hd B.notSynchronized
set_option maxRecDepth 20000 in
theorem wd_X4_sumOfColumn_1 : Cond.fieldLink RX4 15 "PermanentDesk$Matrix" "size" "I" ∈ wsX4_sumOfColumn := List.mem_of_getElem? (i := 1) (by decide +kernel)
set_option maxRecDepth 20000 in
theorem wi_X4_sumOfColumn_X4 : ∀ w ∈ u_ws RX4 TX4 2, w ∈ wsX4_sumOfColumn := by decide +kernel
def f_X4_sumOfColumn_L1 (x1 : Int32) (t_size : Int32) (t_cells : Nat → Int32) : (Int32 × Int32) → Option ((Int32 × Int32) ⊕ Int32)
  | (x2, x3) =>
    if t_size ≤ x3 then
      some (.inr x2)
    else
      (f_X4_at t_size t_cells x3 x1).bind (fun r_2 =>
      pl ((x2 + r_2) : Int32) (fun x2_4 =>
      pl ((x3 + (1 : Int32)) : Int32) (fun x3_5 =>
      some (.inl (x2_4, x3_5)))))
def f_X4_sumOfColumn (t_size : Int32) (t_cells : Nat → Int32) (a1 : Int32) : Option Int32 :=
  (lpN (f_X4_sumOfColumn_L1 a1 t_size t_cells) FU ((0 : Int32), (0 : Int32))).bind (fun x2_6 =>
  some x2_6)
set_option maxHeartbeats 4000000 in
set_option maxRecDepth 100000 in
theorem l_X4_sumOfColumn_1 {p : Program} {l : Launch} {e : Env} {s : State} {m : MethodId} {args : Array Value} {below : List Frame} {meth : Method} {c : Code} {Q : State → Prop} {A0 : Nat → Prop} {H0 : Heap} (C : CallFix p m c cX4_sumOfColumn 4 s args wsX4_sumOfColumn RX4) (G : GT) (hK : gK G s) (hA : ∀ q : Nat, H0.size ≤ q → A0 q) (q_t q_t_cells : Nat) (x1 : Int32) (t_size : Int32) (t_cells : Nat → Int32) (E_x2 : Int32) (K : ∀ (H : Heap) (locs : List Loc) (ls : Array Slot), va_P G.1 vwCl [(q_t, .inr (3, [.ref q_t_cells, .int t_size])), (q_t_cells, .inl (G.2 0, 49, .inl t_cells))] H → va_D A0 [(q_t, .inr (3, [.ref q_t_cells, .int t_size])), (q_t_cells, .inl (G.2 0, 49, .inl t_cells))] → va_S A0 H0 H locs → lv_has ls 4 [(2, .int E_x2)] → W p l e ({ frames := 2, cells := 0, slots := 0, locals := 43 } : Room) s m args below meth c H locs 0 0 Q (F0 m 27 ls [])) : ∀ (n : Nat) (x2 : Int32) (x3 : Int32), lpN (f_X4_sumOfColumn_L1 x1 t_size t_cells) n (x2, x3) = some E_x2 → ∀ (H : Heap) (locs : List Loc) (ls : Array Slot), va_P G.1 vwCl [(q_t, .inr (3, [.ref q_t_cells, .int t_size])), (q_t_cells, .inl (G.2 0, 49, .inl t_cells))] H → va_D A0 [(q_t, .inr (3, [.ref q_t_cells, .int t_size])), (q_t_cells, .inl (G.2 0, 49, .inl t_cells))] → va_S A0 H0 H locs → lv_has ls 4 [(0, .ref q_t), (1, .int x1), (2, .int x2), (3, .int x3)] → W p l e ({ frames := 2, cells := 0, slots := 0, locals := 43 } : Room) s m args below meth c H locs 0 0 Q (F0 m 4 ls []) := by
  obtain ⟨hx, hb, hml, hown, hts⟩ := C
  intro n
  induction n with
  | zero => intro x2 x3 h; exact absurd h (fun h => lp_0 h)
  | succ n ih =>
    intro x2 x3 h H locs ls hP hD hS hl
    obtain ⟨y, h, hk⟩ := lp_s h
    rw [f_X4_sumOfColumn_L1] at h
    refine lv_iload_n hx hb dX4_sumOfColumn_4 rfl (lv_at hl 3 rfl) ?_
    refine lv_aload_n hx hb dX4_sumOfColumn_5 rfl (lv_at hl 0 rfl) ?_
    refine va_get (D := G.1) (ci := 3) (v := .int t_size) (C := RX4) (T := TX4) (N := 2) hx hb hts wi_X4_sumOfColumn_X4 hown hK hP 0 rfl rfl 1 (by decide) (hts _ wd_X4_sumOfColumn_1) (fun _ h9 => h9) rfl dX4_sumOfColumn_6 ?_
    refine lv_icmp_ge (tgt := 27) hx hb dX4_sumOfColumn_9 (by decide) (fun c_1 => ?_) (fun c_1 => ?_)
    · replace h := it_t h c_1
      obtain rfl := sm1 h
      obtain rfl := sm1 hk
      exact K H locs ls hP hD hS (lv_sub hl [2] rfl)
    · replace h := it_f h c_1
      refine lv_iload_n hx hb dX4_sumOfColumn_12 rfl (lv_at hl 2 rfl) ?_
      refine lv_aload_n hx hb dX4_sumOfColumn_13 rfl (lv_at hl 0 rfl) ?_
      refine lv_iload_n hx hb dX4_sumOfColumn_14 rfl (lv_at hl 3 rfl) ?_
      refine lv_iload_n hx hb dX4_sumOfColumn_15 rfl (lv_at hl 1 rfl) ?_
      obtain ⟨r_2, hf_3, h⟩ := bd_ok h
      refine ck_Vi (rest := [.int x2]) (wn := [(q_t, .inr (3, [.ref q_t_cells, .int t_size])), (q_t_cells, .inl (G.2 0, 49, .inl t_cells))]) ⟨hx, hb, hml, hown, hts⟩ hK hP hD hS hA [0, 1] [] [0, 1] (c_X4_at l G q_t q_t_cells _ t_size t_cells x3 x1 _ hf_3) (cwV 2 hts gX4_sumOfColumn_X4_at rfl rfl rfl (by decide +kernel) ⟨Nat.le_of_ble_eq_true rfl, Nat.le_of_ble_eq_true rfl⟩) rfl rfl rfl rfl rfl rfl (by decide) rfl rfl rfl hl.1 rfl (Nat.le_of_ble_eq_true rfl) dX4_sumOfColumn_16 ⟨Nat.zero_le _, Nat.zero_le _⟩ (fun H locs hP hD hS => ?_)
      refine lv_iadd hx hb dX4_sumOfColumn_19 ?_
      refine lv_topi (fun x2_4 ex2_4 => ?_)
      replace h := pl_v h ex2_4
      refine lv_istore_n (lv' := [(2, .int x2_4), (0, .ref q_t), (1, .int x1), (3, .int x3)]) hx hb dX4_sumOfColumn_20 rfl hl (by decide) rfl (fun ls hl => ?_)
      obtain ⟨x3_5, ex3_5, h⟩ := pl_ok h
      refine lv_iinc (v := x3_5) (lv' := [(3, .int x3_5), (2, .int x2_4), (0, .ref q_t), (1, .int x1)]) hx hb dX4_sumOfColumn_21 hl (k := 3) rfl (by rw [ex3_5]; rfl) (by decide) rfl (fun ls hl => ?_)
      refine lv_goto (tgt := 4) hx hb dX4_sumOfColumn_24 (by decide) ?_
      obtain rfl := sm1 h
      exact ih x2_4 x3_5 hk H locs ls hP hD hS (lv_sub hl [2, 3, 1, 0] rfl)
set_option maxHeartbeats 4000000 in
set_option maxRecDepth 100000 in
theorem k_X4_sumOfColumn {p : Program} {l : Launch} {e : Env} {s : State} {m : MethodId} {args : Array Value} {below : List Frame} {meth : Method} {c : Code} {Q : State → Prop} {A0 : Nat → Prop} {H0 : Heap} (C : CallFix p m c cX4_sumOfColumn 4 s args wsX4_sumOfColumn RX4) (G : GT) (hK : gK G s) (hA : ∀ q : Nat, H0.size ≤ q → A0 q) (q_t q_t_cells : Nat) (t_size : Int32) (t_cells : Nat → Int32) (a1 : Int32) (r : Int32) (h : f_X4_sumOfColumn t_size t_cells a1 = some r) (KR : ∀ (H : Heap) (locs : List Loc) (ls : Array Slot) (pc : Nat), decode cX4_sumOfColumn pc = .ok (.ireturn, 1) → va_P G.1 vwCl [(q_t, .inr (3, [.ref q_t_cells, .int t_size])), (q_t_cells, .inl (G.2 0, 49, .inl t_cells))] H → va_D A0 [(q_t, .inr (3, [.ref q_t_cells, .int t_size])), (q_t_cells, .inl (G.2 0, 49, .inl t_cells))] → va_S A0 H0 H locs → W p l e ({ frames := 2, cells := 0, slots := 0, locals := 43 } : Room) s m args below meth c H locs 0 0 Q (F0 m pc ls [.int r])) : ∀ (H : Heap) (locs : List Loc) (ls : Array Slot), va_P G.1 vwCl [(q_t, .inr (3, [.ref q_t_cells, .int t_size])), (q_t_cells, .inl (G.2 0, 49, .inl t_cells))] H → va_D A0 [(q_t, .inr (3, [.ref q_t_cells, .int t_size])), (q_t_cells, .inl (G.2 0, 49, .inl t_cells))] → va_S A0 H0 H locs → lv_has ls 4 [(0, .ref q_t), (1, .int a1)] → W p l e ({ frames := 2, cells := 0, slots := 0, locals := 43 } : Room) s m args below meth c H locs 0 0 Q (F0 m 0 ls []) := by
  obtain ⟨hx, hb, hml, hown, hts⟩ := C
  intro H locs ls hP hD hS hl
  rw [f_X4_sumOfColumn] at h
  refine lv_iconst (v := 0) hx hb dX4_sumOfColumn_0 (by decide) ?_
  refine lv_istore_n (lv' := [(2, .int (0 : Int32)), (0, .ref q_t), (1, .int a1)]) hx hb dX4_sumOfColumn_1 rfl hl (by decide) rfl (fun ls hl => ?_)
  refine lv_iconst (v := 0) hx hb dX4_sumOfColumn_2 (by decide) ?_
  refine lv_istore_n (lv' := [(3, .int (0 : Int32)), (2, .int (0 : Int32)), (0, .ref q_t), (1, .int a1)]) hx hb dX4_sumOfColumn_3 rfl hl (by decide) rfl (fun ls hl => ?_)
  obtain ⟨x2_6, hz_8, h⟩ := bd_ok h
  refine l_X4_sumOfColumn_1 ⟨hx, hb, hml, hown, hts⟩ G hK hA q_t q_t_cells a1 t_size t_cells x2_6 ?_ FU (0 : Int32) (0 : Int32) hz_8 H locs ls hP hD hS (lv_sub hl [2, 3, 1, 0] rfl)
  intro H locs ls hP hD hS hl
  refine lv_iload_n hx hb dX4_sumOfColumn_27 rfl (lv_at hl 0 rfl) ?_
  obtain rfl := sm1 h
  exact KR H locs ls 28 dX4_sumOfColumn_28 hP hD hS
set_option maxHeartbeats 4000000 in
set_option maxRecDepth 100000 in
theorem c_X4_sumOfColumn (l : Launch) (G : GT) (q_t q_t_cells : Nat) (sz : Nat) (t_size : Int32) (t_cells : Nat → Int32) (a1 : Int32) (r : Int32) (h : f_X4_sumOfColumn t_size t_cells a1 = some r) : Met l yX4_sumOfColumn wsX4_sumOfColumn ({ frames := 2, cells := 0, slots := 0, locals := 43 } : Room) (va_Pc [.ref q_t, .int a1] (pcW G [(q_t, .inr (3, [.ref q_t_cells, .int t_size])), (q_t_cells, .inl (G.2 0, 49, .inl t_cells))] sz)) (va_Qi (fun r9 (_ : Unit) => r9 = r) (fun _ t => atW G (va_A [(q_t, .inr (3, [.ref q_t_cells, .int t_size])), (q_t_cells, .inl (G.2 0, 49, .inl t_cells))] sz) [(q_t, .inr (3, [.ref q_t_cells, .int t_size])), (q_t_cells, .inl (G.2 0, 49, .inl t_cells))] t) (va_A [(q_t, .inr (3, [.ref q_t_cells, .int t_size])), (q_t_cells, .inl (G.2 0, 49, .inl t_cells))] sz)) 0 0 (va_A [(q_t, .inr (3, [.ref q_t_cells, .int t_size])), (q_t_cells, .inl (G.2 0, 49, .inl t_cells))] sz) := by
  refine Met.ofW (cc := cX4_sumOfColumn) (maxL := 4) (ret := (some .int)) (by decide) rfl ?_
  intro p e s m args below meth c s₁ B hml hv
  obtain ⟨rfl, hsz, hP, hK, hD0⟩ := hv
  subst hsz
  have hD := hD0.self (sz := s.heap.size)
  generalize hAe : va_A [(q_t, .inr (3, [.ref q_t_cells, .int t_size])), (q_t_cells, .inl (G.2 0, 49, .inl t_cells))] s.heap.size = A at hD ⊢
  have hA : ∀ q : Nat, s.heap.size ≤ q → A q := fun q h => by rw [← hAe]; exact Or.inr h
  have hl := lv_entry ([.ref q_t, .int a1]) (n := 4) (Nat.le_of_ble_eq_true rfl)
  rw [lg_entry_eq]
  refine k_X4_sumOfColumn ⟨B.exec, B.bytes, hml, findClass_of_methodNamed B.named, atoms_spec (ws := wsX4_sumOfColumn) B.pre⟩ G hK hA q_t q_t_cells _ _ _ _ h ?_ _ _ _ hP hD va_S.rf hl
  intro H locs ls pc hd hP hD hS
  exact W.iret B.exec B.bytes B.returns (fun t ht hW => ⟨⟨r, (), rfl, rfl, by rw [ht]; exact hP, hD⟩, hS.F ht⟩) hS.2.2 hd B.notSynchronized
set_option maxRecDepth 20000 in
theorem wd_X4_sumOfAll_1 : Cond.fieldLink RX4 15 "PermanentDesk$Matrix" "size" "I" ∈ wsX4_sumOfAll := List.mem_of_getElem? (i := 1) (by decide +kernel)
set_option maxRecDepth 20000 in
theorem wi_X4_sumOfAll_X4 : ∀ w ∈ u_ws RX4 TX4 2, w ∈ wsX4_sumOfAll := by decide +kernel
def f_X4_sumOfAll_L1 (t_size : Int32) (t_cells : Nat → Int32) : (Int32 × Int32) → Option ((Int32 × Int32) ⊕ Int32)
  | (x1, x2) =>
    if t_size ≤ x2 then
      some (.inr x1)
    else
      (f_X4_sumOfRow t_size t_cells x2).bind (fun r_2 =>
      pl ((x1 + r_2) : Int32) (fun x1_4 =>
      pl ((x2 + (1 : Int32)) : Int32) (fun x2_5 =>
      some (.inl (x1_4, x2_5)))))
def f_X4_sumOfAll (t_size : Int32) (t_cells : Nat → Int32) : Option Int32 :=
  (lpN (f_X4_sumOfAll_L1 t_size t_cells) FU ((0 : Int32), (0 : Int32))).bind (fun x1_6 =>
  some x1_6)
set_option maxHeartbeats 4000000 in
set_option maxRecDepth 100000 in
theorem l_X4_sumOfAll_1 {p : Program} {l : Launch} {e : Env} {s : State} {m : MethodId} {args : Array Value} {below : List Frame} {meth : Method} {c : Code} {Q : State → Prop} {A0 : Nat → Prop} {H0 : Heap} (C : CallFix p m c cX4_sumOfAll 3 s args wsX4_sumOfAll RX4) (G : GT) (hK : gK G s) (hA : ∀ q : Nat, H0.size ≤ q → A0 q) (q_t q_t_cells : Nat) (t_size : Int32) (t_cells : Nat → Int32) (E_x1 : Int32) (K : ∀ (H : Heap) (locs : List Loc) (ls : Array Slot), va_P G.1 vwCl [(q_t, .inr (3, [.ref q_t_cells, .int t_size])), (q_t_cells, .inl (G.2 0, 49, .inl t_cells))] H → va_D A0 [(q_t, .inr (3, [.ref q_t_cells, .int t_size])), (q_t_cells, .inl (G.2 0, 49, .inl t_cells))] → va_S A0 H0 H locs → lv_has ls 3 [(1, .int E_x1)] → W p l e ({ frames := 3, cells := 0, slots := 0, locals := 66 } : Room) s m args below meth c H locs 0 0 Q (F0 m 26 ls [])) : ∀ (n : Nat) (x1 : Int32) (x2 : Int32), lpN (f_X4_sumOfAll_L1 t_size t_cells) n (x1, x2) = some E_x1 → ∀ (H : Heap) (locs : List Loc) (ls : Array Slot), va_P G.1 vwCl [(q_t, .inr (3, [.ref q_t_cells, .int t_size])), (q_t_cells, .inl (G.2 0, 49, .inl t_cells))] H → va_D A0 [(q_t, .inr (3, [.ref q_t_cells, .int t_size])), (q_t_cells, .inl (G.2 0, 49, .inl t_cells))] → va_S A0 H0 H locs → lv_has ls 3 [(0, .ref q_t), (1, .int x1), (2, .int x2)] → W p l e ({ frames := 3, cells := 0, slots := 0, locals := 66 } : Room) s m args below meth c H locs 0 0 Q (F0 m 4 ls []) := by
  obtain ⟨hx, hb, hml, hown, hts⟩ := C
  intro n
  induction n with
  | zero => intro x1 x2 h; exact absurd h (fun h => lp_0 h)
  | succ n ih =>
    intro x1 x2 h H locs ls hP hD hS hl
    obtain ⟨y, h, hk⟩ := lp_s h
    rw [f_X4_sumOfAll_L1] at h
    refine lv_iload_n hx hb dX4_sumOfAll_4 rfl (lv_at hl 2 rfl) ?_
    refine lv_aload_n hx hb dX4_sumOfAll_5 rfl (lv_at hl 0 rfl) ?_
    refine va_get (D := G.1) (ci := 3) (v := .int t_size) (C := RX4) (T := TX4) (N := 2) hx hb hts wi_X4_sumOfAll_X4 hown hK hP 0 rfl rfl 1 (by decide) (hts _ wd_X4_sumOfAll_1) (fun _ h9 => h9) rfl dX4_sumOfAll_6 ?_
    refine lv_icmp_ge (tgt := 26) hx hb dX4_sumOfAll_9 (by decide) (fun c_1 => ?_) (fun c_1 => ?_)
    · replace h := it_t h c_1
      obtain rfl := sm1 h
      obtain rfl := sm1 hk
      exact K H locs ls hP hD hS (lv_sub hl [1] rfl)
    · replace h := it_f h c_1
      refine lv_iload_n hx hb dX4_sumOfAll_12 rfl (lv_at hl 1 rfl) ?_
      refine lv_aload_n hx hb dX4_sumOfAll_13 rfl (lv_at hl 0 rfl) ?_
      refine lv_iload_n hx hb dX4_sumOfAll_14 rfl (lv_at hl 2 rfl) ?_
      obtain ⟨r_2, hf_3, h⟩ := bd_ok h
      refine ck_Vi (rest := [.int x1]) (wn := [(q_t, .inr (3, [.ref q_t_cells, .int t_size])), (q_t_cells, .inl (G.2 0, 49, .inl t_cells))]) ⟨hx, hb, hml, hown, hts⟩ hK hP hD hS hA [0, 1] [] [0, 1] (c_X4_sumOfRow l G q_t q_t_cells _ t_size t_cells x2 _ hf_3) (cwV 1 hts gX4_sumOfAll_X4_sumOfRow rfl rfl rfl (by decide +kernel) ⟨Nat.le_of_ble_eq_true rfl, Nat.le_of_ble_eq_true rfl⟩) rfl rfl rfl rfl rfl rfl (by decide) rfl rfl rfl hl.1 rfl (Nat.le_of_ble_eq_true rfl) dX4_sumOfAll_15 ⟨Nat.zero_le _, Nat.zero_le _⟩ (fun H locs hP hD hS => ?_)
      refine lv_iadd hx hb dX4_sumOfAll_18 ?_
      refine lv_topi (fun x1_4 ex1_4 => ?_)
      replace h := pl_v h ex1_4
      refine lv_istore_n (lv' := [(1, .int x1_4), (0, .ref q_t), (2, .int x2)]) hx hb dX4_sumOfAll_19 rfl hl (by decide) rfl (fun ls hl => ?_)
      obtain ⟨x2_5, ex2_5, h⟩ := pl_ok h
      refine lv_iinc (v := x2_5) (lv' := [(2, .int x2_5), (1, .int x1_4), (0, .ref q_t)]) hx hb dX4_sumOfAll_20 hl (k := 2) rfl (by rw [ex2_5]; rfl) (by decide) rfl (fun ls hl => ?_)
      refine lv_goto (tgt := 4) hx hb dX4_sumOfAll_23 (by decide) ?_
      obtain rfl := sm1 h
      exact ih x1_4 x2_5 hk H locs ls hP hD hS (lv_sub hl [2, 1, 0] rfl)
set_option maxHeartbeats 4000000 in
set_option maxRecDepth 100000 in
theorem k_X4_sumOfAll {p : Program} {l : Launch} {e : Env} {s : State} {m : MethodId} {args : Array Value} {below : List Frame} {meth : Method} {c : Code} {Q : State → Prop} {A0 : Nat → Prop} {H0 : Heap} (C : CallFix p m c cX4_sumOfAll 3 s args wsX4_sumOfAll RX4) (G : GT) (hK : gK G s) (hA : ∀ q : Nat, H0.size ≤ q → A0 q) (q_t q_t_cells : Nat) (t_size : Int32) (t_cells : Nat → Int32) (r : Int32) (h : f_X4_sumOfAll t_size t_cells = some r) (KR : ∀ (H : Heap) (locs : List Loc) (ls : Array Slot) (pc : Nat), decode cX4_sumOfAll pc = .ok (.ireturn, 1) → va_P G.1 vwCl [(q_t, .inr (3, [.ref q_t_cells, .int t_size])), (q_t_cells, .inl (G.2 0, 49, .inl t_cells))] H → va_D A0 [(q_t, .inr (3, [.ref q_t_cells, .int t_size])), (q_t_cells, .inl (G.2 0, 49, .inl t_cells))] → va_S A0 H0 H locs → W p l e ({ frames := 3, cells := 0, slots := 0, locals := 66 } : Room) s m args below meth c H locs 0 0 Q (F0 m pc ls [.int r])) : ∀ (H : Heap) (locs : List Loc) (ls : Array Slot), va_P G.1 vwCl [(q_t, .inr (3, [.ref q_t_cells, .int t_size])), (q_t_cells, .inl (G.2 0, 49, .inl t_cells))] H → va_D A0 [(q_t, .inr (3, [.ref q_t_cells, .int t_size])), (q_t_cells, .inl (G.2 0, 49, .inl t_cells))] → va_S A0 H0 H locs → lv_has ls 3 [(0, .ref q_t)] → W p l e ({ frames := 3, cells := 0, slots := 0, locals := 66 } : Room) s m args below meth c H locs 0 0 Q (F0 m 0 ls []) := by
  obtain ⟨hx, hb, hml, hown, hts⟩ := C
  intro H locs ls hP hD hS hl
  rw [f_X4_sumOfAll] at h
  refine lv_iconst (v := 0) hx hb dX4_sumOfAll_0 (by decide) ?_
  refine lv_istore_n (lv' := [(1, .int (0 : Int32)), (0, .ref q_t)]) hx hb dX4_sumOfAll_1 rfl hl (by decide) rfl (fun ls hl => ?_)
  refine lv_iconst (v := 0) hx hb dX4_sumOfAll_2 (by decide) ?_
  refine lv_istore_n (lv' := [(2, .int (0 : Int32)), (1, .int (0 : Int32)), (0, .ref q_t)]) hx hb dX4_sumOfAll_3 rfl hl (by decide) rfl (fun ls hl => ?_)
  obtain ⟨x1_6, hz_8, h⟩ := bd_ok h
  refine l_X4_sumOfAll_1 ⟨hx, hb, hml, hown, hts⟩ G hK hA q_t q_t_cells t_size t_cells x1_6 ?_ FU (0 : Int32) (0 : Int32) hz_8 H locs ls hP hD hS (lv_sub hl [2, 1, 0] rfl)
  intro H locs ls hP hD hS hl
  refine lv_iload_n hx hb dX4_sumOfAll_26 rfl (lv_at hl 0 rfl) ?_
  obtain rfl := sm1 h
  exact KR H locs ls 27 dX4_sumOfAll_27 hP hD hS
set_option maxHeartbeats 4000000 in
set_option maxRecDepth 100000 in
theorem c_X4_sumOfAll (l : Launch) (G : GT) (q_t q_t_cells : Nat) (sz : Nat) (t_size : Int32) (t_cells : Nat → Int32) (r : Int32) (h : f_X4_sumOfAll t_size t_cells = some r) : Met l yX4_sumOfAll wsX4_sumOfAll ({ frames := 3, cells := 0, slots := 0, locals := 66 } : Room) (va_Pc [.ref q_t] (pcW G [(q_t, .inr (3, [.ref q_t_cells, .int t_size])), (q_t_cells, .inl (G.2 0, 49, .inl t_cells))] sz)) (va_Qi (fun r9 (_ : Unit) => r9 = r) (fun _ t => atW G (va_A [(q_t, .inr (3, [.ref q_t_cells, .int t_size])), (q_t_cells, .inl (G.2 0, 49, .inl t_cells))] sz) [(q_t, .inr (3, [.ref q_t_cells, .int t_size])), (q_t_cells, .inl (G.2 0, 49, .inl t_cells))] t) (va_A [(q_t, .inr (3, [.ref q_t_cells, .int t_size])), (q_t_cells, .inl (G.2 0, 49, .inl t_cells))] sz)) 0 0 (va_A [(q_t, .inr (3, [.ref q_t_cells, .int t_size])), (q_t_cells, .inl (G.2 0, 49, .inl t_cells))] sz) := by
  refine Met.ofW (cc := cX4_sumOfAll) (maxL := 3) (ret := (some .int)) (by decide) rfl ?_
  intro p e s m args below meth c s₁ B hml hv
  obtain ⟨rfl, hsz, hP, hK, hD0⟩ := hv
  subst hsz
  have hD := hD0.self (sz := s.heap.size)
  generalize hAe : va_A [(q_t, .inr (3, [.ref q_t_cells, .int t_size])), (q_t_cells, .inl (G.2 0, 49, .inl t_cells))] s.heap.size = A at hD ⊢
  have hA : ∀ q : Nat, s.heap.size ≤ q → A q := fun q h => by rw [← hAe]; exact Or.inr h
  have hl := lv_entry ([.ref q_t]) (n := 3) (Nat.le_of_ble_eq_true rfl)
  rw [lg_entry_eq]
  refine k_X4_sumOfAll ⟨B.exec, B.bytes, hml, findClass_of_methodNamed B.named, atoms_spec (ws := wsX4_sumOfAll) B.pre⟩ G hK hA q_t q_t_cells _ _ _ h ?_ _ _ _ hP hD va_S.rf hl
  intro H locs ls pc hd hP hD hS
  exact W.iret B.exec B.bytes B.returns (fun t ht hW => ⟨⟨r, (), rfl, rfl, by rw [ht]; exact hP, hD⟩, hS.F ht⟩) hS.2.2 hd B.notSynchronized
set_option maxRecDepth 20000 in
theorem wd_X4_greatest_1 : Cond.fieldLink RX4 15 "PermanentDesk$Matrix" "size" "I" ∈ wsX4_greatest := List.mem_of_getElem? (i := 1) (by decide +kernel)
set_option maxRecDepth 20000 in
theorem wi_X4_greatest_X4 : ∀ w ∈ u_ws RX4 TX4 2, w ∈ wsX4_greatest := by decide +kernel
set_option maxRecDepth 20000 in
theorem wd_X4_greatest_2 : Cond.methodLink RX4 56 Lib.Math.max.name ∈ wsX4_greatest := List.mem_of_getElem? (i := 2) (by decide +kernel)
set_option maxRecDepth 20000 in
theorem wd_X4_greatest_3 : Cond.static Lib.Math.max.name ∈ wsX4_greatest := List.mem_of_getElem? (i := 3) (by decide +kernel)
set_option maxRecDepth 20000 in
theorem wd_X4_greatest_4 : Cond.initialized "java/lang/Math" ∈ wsX4_greatest := List.mem_of_getElem? (i := 4) (by decide +kernel)
set_option maxRecDepth 20000 in
theorem wd_X4_greatest_5 : Cond.code Lib.Math.max.name Lib.Math.max.code 2 (some .int) ∈ wsX4_greatest := List.mem_of_getElem? (i := 5) (by decide +kernel)
def f_X4_greatest_L2 (x2 : Int32) (t_size : Int32) (t_cells : Nat → Int32) : (Int32 × Int32) → Option ((Int32 × Int32) ⊕ Int32)
  | (x1, x3) =>
    if t_size ≤ x3 then
      some (.inr x1)
    else
      (f_X4_at t_size t_cells x2 x3).bind (fun r_5 =>
      pl ((if x1 < r_5 then r_5 else x1) : Int32) (fun x1_7 =>
      pl ((x3 + (1 : Int32)) : Int32) (fun x3_8 =>
      some (.inl (x1_7, x3_8)))))
def f_X4_greatest_L1 (t_size : Int32) (t_cells : Nat → Int32) : (Int32 × Int32) → Option ((Int32 × Int32) ⊕ Int32)
  | (x1, x2) =>
    if t_size ≤ x2 then
      some (.inr x1)
    else
      (lpN (f_X4_greatest_L2 x2 t_size t_cells) FU (x1, (0 : Int32))).bind (fun x1_9 =>
      pl ((x2 + (1 : Int32)) : Int32) (fun x2_12 =>
      some (.inl (x1_9, x2_12))))
def f_X4_greatest (t_size : Int32) (t_cells : Nat → Int32) : Option Int32 :=
  (f_X4_at t_size t_cells (0 : Int32) (0 : Int32)).bind (fun r_1 =>
  (lpN (f_X4_greatest_L1 t_size t_cells) FU (r_1, (0 : Int32))).bind (fun x1_13 =>
  some x1_13))
set_option maxHeartbeats 4000000 in
set_option maxRecDepth 100000 in
theorem l_X4_greatest_2 {p : Program} {l : Launch} {e : Env} {s : State} {m : MethodId} {args : Array Value} {below : List Frame} {meth : Method} {c : Code} {Q : State → Prop} {A0 : Nat → Prop} {H0 : Heap} (C : CallFix p m c cX4_greatest 4 s args wsX4_greatest RX4) (G : GT) (hK : gK G s) (hA : ∀ q : Nat, H0.size ≤ q → A0 q) (q_t q_t_cells : Nat) (x2 : Int32) (t_size : Int32) (t_cells : Nat → Int32) (E_x1 : Int32) (K : ∀ (H : Heap) (locs : List Loc) (ls : Array Slot), va_P G.1 vwCl [(q_t, .inr (3, [.ref q_t_cells, .int t_size])), (q_t_cells, .inl (G.2 0, 49, .inl t_cells))] H → va_D A0 [(q_t, .inr (3, [.ref q_t_cells, .int t_size])), (q_t_cells, .inl (G.2 0, 49, .inl t_cells))] → va_S A0 H0 H locs → lv_has ls 4 [(0, .ref q_t), (1, .int E_x1), (2, .int x2)] → W p l e ({ frames := 2, cells := 0, slots := 0, locals := 60 } : Room) s m args below meth c H locs 0 0 Q (F0 m 44 ls [])) : ∀ (n : Nat) (x1 : Int32) (x3 : Int32), lpN (f_X4_greatest_L2 x2 t_size t_cells) n (x1, x3) = some E_x1 → ∀ (H : Heap) (locs : List Loc) (ls : Array Slot), va_P G.1 vwCl [(q_t, .inr (3, [.ref q_t_cells, .int t_size])), (q_t_cells, .inl (G.2 0, 49, .inl t_cells))] H → va_D A0 [(q_t, .inr (3, [.ref q_t_cells, .int t_size])), (q_t_cells, .inl (G.2 0, 49, .inl t_cells))] → va_S A0 H0 H locs → lv_has ls 4 [(0, .ref q_t), (1, .int x1), (2, .int x2), (3, .int x3)] → W p l e ({ frames := 2, cells := 0, slots := 0, locals := 60 } : Room) s m args below meth c H locs 0 0 Q (F0 m 19 ls []) := by
  obtain ⟨hx, hb, hml, hown, hts⟩ := C
  intro n
  induction n with
  | zero => intro x1 x3 h; exact absurd h (fun h => lp_0 h)
  | succ n ih =>
    intro x1 x3 h H locs ls hP hD hS hl
    obtain ⟨y, h, hk⟩ := lp_s h
    rw [f_X4_greatest_L2] at h
    refine lv_iload_n hx hb dX4_greatest_19 rfl (lv_at hl 3 rfl) ?_
    refine lv_aload_n hx hb dX4_greatest_20 rfl (lv_at hl 0 rfl) ?_
    refine va_get (D := G.1) (ci := 3) (v := .int t_size) (C := RX4) (T := TX4) (N := 2) hx hb hts wi_X4_greatest_X4 hown hK hP 0 rfl rfl 1 (by decide) (hts _ wd_X4_greatest_1) (fun _ h9 => h9) rfl dX4_greatest_21 ?_
    refine lv_icmp_ge (tgt := 44) hx hb dX4_greatest_24 (by decide) (fun c_4 => ?_) (fun c_4 => ?_)
    · replace h := it_t h c_4
      obtain rfl := sm1 h
      obtain rfl := sm1 hk
      exact K H locs ls hP hD hS (lv_sub hl [0, 1, 2] rfl)
    · replace h := it_f h c_4
      refine lv_iload_n hx hb dX4_greatest_27 rfl (lv_at hl 1 rfl) ?_
      refine lv_aload_n hx hb dX4_greatest_28 rfl (lv_at hl 0 rfl) ?_
      refine lv_iload_n hx hb dX4_greatest_29 rfl (lv_at hl 2 rfl) ?_
      refine lv_iload_n hx hb dX4_greatest_30 rfl (lv_at hl 3 rfl) ?_
      obtain ⟨r_5, hf_6, h⟩ := bd_ok h
      refine ck_Vi (rest := [.int x1]) (wn := [(q_t, .inr (3, [.ref q_t_cells, .int t_size])), (q_t_cells, .inl (G.2 0, 49, .inl t_cells))]) ⟨hx, hb, hml, hown, hts⟩ hK hP hD hS hA [0, 1] [] [0, 1] (c_X4_at l G q_t q_t_cells _ t_size t_cells x2 x3 _ hf_6) (cwV 2 hts gX4_greatest_X4_at rfl rfl rfl (by decide +kernel) ⟨Nat.le_of_ble_eq_true rfl, Nat.le_of_ble_eq_true rfl⟩) rfl rfl rfl rfl rfl rfl (by decide) rfl rfl rfl hl.1 rfl (Nat.le_of_ble_eq_true rfl) dX4_greatest_31 ⟨Nat.zero_le _, Nat.zero_le _⟩ (fun H locs hP hD hS => ?_)
      refine va_mmax hx hb (hml.trans hl.1.symm) hown (hts _ wd_X4_greatest_2) (hts _ wd_X4_greatest_3) (hts _ wd_X4_greatest_4) (hts _ wd_X4_greatest_5) (Nat.le_of_ble_eq_true rfl) (Nat.le_of_ble_eq_true rfl) (Nat.zero_le _) (Nat.zero_le _) dX4_greatest_34 ?_
      refine lv_topi (fun x1_7 ex1_7 => ?_)
      replace h := pl_v h ex1_7
      refine lv_istore_n (lv' := [(1, .int x1_7), (0, .ref q_t), (2, .int x2), (3, .int x3)]) hx hb dX4_greatest_37 rfl hl (by decide) rfl (fun ls hl => ?_)
      obtain ⟨x3_8, ex3_8, h⟩ := pl_ok h
      refine lv_iinc (v := x3_8) (lv' := [(3, .int x3_8), (1, .int x1_7), (0, .ref q_t), (2, .int x2)]) hx hb dX4_greatest_38 hl (k := 3) rfl (by rw [ex3_8]; rfl) (by decide) rfl (fun ls hl => ?_)
      refine lv_goto (tgt := 19) hx hb dX4_greatest_41 (by decide) ?_
      obtain rfl := sm1 h
      exact ih x1_7 x3_8 hk H locs ls hP hD hS (lv_sub hl [2, 1, 3, 0] rfl)
set_option maxHeartbeats 4000000 in
set_option maxRecDepth 100000 in
theorem l_X4_greatest_1 {p : Program} {l : Launch} {e : Env} {s : State} {m : MethodId} {args : Array Value} {below : List Frame} {meth : Method} {c : Code} {Q : State → Prop} {A0 : Nat → Prop} {H0 : Heap} (C : CallFix p m c cX4_greatest 4 s args wsX4_greatest RX4) (G : GT) (hK : gK G s) (hA : ∀ q : Nat, H0.size ≤ q → A0 q) (q_t q_t_cells : Nat) (t_size : Int32) (t_cells : Nat → Int32) (E_x1 : Int32) (K : ∀ (H : Heap) (locs : List Loc) (ls : Array Slot), va_P G.1 vwCl [(q_t, .inr (3, [.ref q_t_cells, .int t_size])), (q_t_cells, .inl (G.2 0, 49, .inl t_cells))] H → va_D A0 [(q_t, .inr (3, [.ref q_t_cells, .int t_size])), (q_t_cells, .inl (G.2 0, 49, .inl t_cells))] → va_S A0 H0 H locs → lv_has ls 4 [(1, .int E_x1)] → W p l e ({ frames := 2, cells := 0, slots := 0, locals := 60 } : Room) s m args below meth c H locs 0 0 Q (F0 m 50 ls [])) : ∀ (n : Nat) (x1 : Int32) (x2 : Int32), lpN (f_X4_greatest_L1 t_size t_cells) n (x1, x2) = some E_x1 → ∀ (H : Heap) (locs : List Loc) (ls : Array Slot), va_P G.1 vwCl [(q_t, .inr (3, [.ref q_t_cells, .int t_size])), (q_t_cells, .inl (G.2 0, 49, .inl t_cells))] H → va_D A0 [(q_t, .inr (3, [.ref q_t_cells, .int t_size])), (q_t_cells, .inl (G.2 0, 49, .inl t_cells))] → va_S A0 H0 H locs → lv_has ls 4 [(0, .ref q_t), (1, .int x1), (2, .int x2)] → W p l e ({ frames := 2, cells := 0, slots := 0, locals := 60 } : Room) s m args below meth c H locs 0 0 Q (F0 m 9 ls []) := by
  obtain ⟨hx, hb, hml, hown, hts⟩ := C
  intro n
  induction n with
  | zero => intro x1 x2 h; exact absurd h (fun h => lp_0 h)
  | succ n ih =>
    intro x1 x2 h H locs ls hP hD hS hl
    obtain ⟨y, h, hk⟩ := lp_s h
    rw [f_X4_greatest_L1] at h
    refine lv_iload_n hx hb dX4_greatest_9 rfl (lv_at hl 2 rfl) ?_
    refine lv_aload_n hx hb dX4_greatest_10 rfl (lv_at hl 0 rfl) ?_
    refine va_get (D := G.1) (ci := 3) (v := .int t_size) (C := RX4) (T := TX4) (N := 2) hx hb hts wi_X4_greatest_X4 hown hK hP 0 rfl rfl 1 (by decide) (hts _ wd_X4_greatest_1) (fun _ h9 => h9) rfl dX4_greatest_11 ?_
    refine lv_icmp_ge (tgt := 50) hx hb dX4_greatest_14 (by decide) (fun c_3 => ?_) (fun c_3 => ?_)
    · replace h := it_t h c_3
      obtain rfl := sm1 h
      obtain rfl := sm1 hk
      exact K H locs ls hP hD hS (lv_sub hl [1] rfl)
    · replace h := it_f h c_3
      refine lv_iconst (v := 0) hx hb dX4_greatest_17 (by decide) ?_
      refine lv_istore_n (lv' := [(3, .int (0 : Int32)), (0, .ref q_t), (1, .int x1), (2, .int x2)]) hx hb dX4_greatest_18 rfl hl (by decide) rfl (fun ls hl => ?_)
      obtain ⟨x1_9, hz_11, h⟩ := bd_ok h
      refine l_X4_greatest_2 ⟨hx, hb, hml, hown, hts⟩ G hK hA q_t q_t_cells x2 t_size t_cells x1_9 ?_ FU x1 (0 : Int32) hz_11 H locs ls hP hD hS (lv_sub hl [1, 2, 3, 0] rfl)
      intro H locs ls hP hD hS hl
      obtain ⟨x2_12, ex2_12, h⟩ := pl_ok h
      refine lv_iinc (v := x2_12) (lv' := [(2, .int x2_12), (0, .ref q_t), (1, .int x1_9)]) hx hb dX4_greatest_44 hl (k := 2) rfl (by rw [ex2_12]; rfl) (by decide) rfl (fun ls hl => ?_)
      refine lv_goto (tgt := 9) hx hb dX4_greatest_47 (by decide) ?_
      obtain rfl := sm1 h
      exact ih x1_9 x2_12 hk H locs ls hP hD hS (lv_sub hl [1, 2, 0] rfl)
set_option maxHeartbeats 4000000 in
set_option maxRecDepth 100000 in
theorem k_X4_greatest {p : Program} {l : Launch} {e : Env} {s : State} {m : MethodId} {args : Array Value} {below : List Frame} {meth : Method} {c : Code} {Q : State → Prop} {A0 : Nat → Prop} {H0 : Heap} (C : CallFix p m c cX4_greatest 4 s args wsX4_greatest RX4) (G : GT) (hK : gK G s) (hA : ∀ q : Nat, H0.size ≤ q → A0 q) (q_t q_t_cells : Nat) (t_size : Int32) (t_cells : Nat → Int32) (r : Int32) (h : f_X4_greatest t_size t_cells = some r) (KR : ∀ (H : Heap) (locs : List Loc) (ls : Array Slot) (pc : Nat), decode cX4_greatest pc = .ok (.ireturn, 1) → va_P G.1 vwCl [(q_t, .inr (3, [.ref q_t_cells, .int t_size])), (q_t_cells, .inl (G.2 0, 49, .inl t_cells))] H → va_D A0 [(q_t, .inr (3, [.ref q_t_cells, .int t_size])), (q_t_cells, .inl (G.2 0, 49, .inl t_cells))] → va_S A0 H0 H locs → W p l e ({ frames := 2, cells := 0, slots := 0, locals := 60 } : Room) s m args below meth c H locs 0 0 Q (F0 m pc ls [.int r])) : ∀ (H : Heap) (locs : List Loc) (ls : Array Slot), va_P G.1 vwCl [(q_t, .inr (3, [.ref q_t_cells, .int t_size])), (q_t_cells, .inl (G.2 0, 49, .inl t_cells))] H → va_D A0 [(q_t, .inr (3, [.ref q_t_cells, .int t_size])), (q_t_cells, .inl (G.2 0, 49, .inl t_cells))] → va_S A0 H0 H locs → lv_has ls 4 [(0, .ref q_t)] → W p l e ({ frames := 2, cells := 0, slots := 0, locals := 60 } : Room) s m args below meth c H locs 0 0 Q (F0 m 0 ls []) := by
  obtain ⟨hx, hb, hml, hown, hts⟩ := C
  intro H locs ls hP hD hS hl
  rw [f_X4_greatest] at h
  refine lv_aload_n hx hb dX4_greatest_0 rfl (lv_at hl 0 rfl) ?_
  refine lv_iconst (v := 0) hx hb dX4_greatest_1 (by decide) ?_
  refine lv_iconst (v := 0) hx hb dX4_greatest_2 (by decide) ?_
  obtain ⟨r_1, hf_2, h⟩ := bd_ok h
  refine ck_Vi (rest := []) (wn := [(q_t, .inr (3, [.ref q_t_cells, .int t_size])), (q_t_cells, .inl (G.2 0, 49, .inl t_cells))]) ⟨hx, hb, hml, hown, hts⟩ hK hP hD hS hA [0, 1] [] [0, 1] (c_X4_at l G q_t q_t_cells _ t_size t_cells (0 : Int32) (0 : Int32) _ hf_2) (cwV 2 hts gX4_greatest_X4_at rfl rfl rfl (by decide +kernel) ⟨Nat.le_of_ble_eq_true rfl, Nat.le_of_ble_eq_true rfl⟩) rfl rfl rfl rfl rfl rfl (by decide) rfl rfl rfl hl.1 rfl (Nat.le_of_ble_eq_true rfl) dX4_greatest_3 ⟨Nat.zero_le _, Nat.zero_le _⟩ (fun H locs hP hD hS => ?_)
  refine lv_istore_n (lv' := [(1, .int r_1), (0, .ref q_t)]) hx hb dX4_greatest_6 rfl hl (by decide) rfl (fun ls hl => ?_)
  refine lv_iconst (v := 0) hx hb dX4_greatest_7 (by decide) ?_
  refine lv_istore_n (lv' := [(2, .int (0 : Int32)), (1, .int r_1), (0, .ref q_t)]) hx hb dX4_greatest_8 rfl hl (by decide) rfl (fun ls hl => ?_)
  obtain ⟨x1_13, hz_15, h⟩ := bd_ok h
  refine l_X4_greatest_1 ⟨hx, hb, hml, hown, hts⟩ G hK hA q_t q_t_cells t_size t_cells x1_13 ?_ FU r_1 (0 : Int32) hz_15 H locs ls hP hD hS (lv_sub hl [2, 1, 0] rfl)
  intro H locs ls hP hD hS hl
  refine lv_iload_n hx hb dX4_greatest_50 rfl (lv_at hl 0 rfl) ?_
  obtain rfl := sm1 h
  exact KR H locs ls 51 dX4_greatest_51 hP hD hS
set_option maxHeartbeats 4000000 in
set_option maxRecDepth 100000 in
theorem c_X4_greatest (l : Launch) (G : GT) (q_t q_t_cells : Nat) (sz : Nat) (t_size : Int32) (t_cells : Nat → Int32) (r : Int32) (h : f_X4_greatest t_size t_cells = some r) : Met l yX4_greatest wsX4_greatest ({ frames := 2, cells := 0, slots := 0, locals := 60 } : Room) (va_Pc [.ref q_t] (pcW G [(q_t, .inr (3, [.ref q_t_cells, .int t_size])), (q_t_cells, .inl (G.2 0, 49, .inl t_cells))] sz)) (va_Qi (fun r9 (_ : Unit) => r9 = r) (fun _ t => atW G (va_A [(q_t, .inr (3, [.ref q_t_cells, .int t_size])), (q_t_cells, .inl (G.2 0, 49, .inl t_cells))] sz) [(q_t, .inr (3, [.ref q_t_cells, .int t_size])), (q_t_cells, .inl (G.2 0, 49, .inl t_cells))] t) (va_A [(q_t, .inr (3, [.ref q_t_cells, .int t_size])), (q_t_cells, .inl (G.2 0, 49, .inl t_cells))] sz)) 0 0 (va_A [(q_t, .inr (3, [.ref q_t_cells, .int t_size])), (q_t_cells, .inl (G.2 0, 49, .inl t_cells))] sz) := by
  refine Met.ofW (cc := cX4_greatest) (maxL := 4) (ret := (some .int)) (by decide) rfl ?_
  intro p e s m args below meth c s₁ B hml hv
  obtain ⟨rfl, hsz, hP, hK, hD0⟩ := hv
  subst hsz
  have hD := hD0.self (sz := s.heap.size)
  generalize hAe : va_A [(q_t, .inr (3, [.ref q_t_cells, .int t_size])), (q_t_cells, .inl (G.2 0, 49, .inl t_cells))] s.heap.size = A at hD ⊢
  have hA : ∀ q : Nat, s.heap.size ≤ q → A q := fun q h => by rw [← hAe]; exact Or.inr h
  have hl := lv_entry ([.ref q_t]) (n := 4) (Nat.le_of_ble_eq_true rfl)
  rw [lg_entry_eq]
  refine k_X4_greatest ⟨B.exec, B.bytes, hml, findClass_of_methodNamed B.named, atoms_spec (ws := wsX4_greatest) B.pre⟩ G hK hA q_t q_t_cells _ _ _ h ?_ _ _ _ hP hD va_S.rf hl
  intro H locs ls pc hd hP hD hS
  exact W.iret B.exec B.bytes B.returns (fun t ht hW => ⟨⟨r, (), rfl, rfl, by rw [ht]; exact hP, hD⟩, hS.F ht⟩) hS.2.2 hd B.notSynchronized
set_option maxRecDepth 20000 in
theorem wd_X4_least_1 : Cond.fieldLink RX4 15 "PermanentDesk$Matrix" "size" "I" ∈ wsX4_least := List.mem_of_getElem? (i := 1) (by decide +kernel)
set_option maxRecDepth 20000 in
theorem wi_X4_least_X4 : ∀ w ∈ u_ws RX4 TX4 2, w ∈ wsX4_least := by decide +kernel
set_option maxRecDepth 20000 in
theorem wd_X4_least_2 : Cond.methodLink RX4 61 Lib.Math.min.name ∈ wsX4_least := List.mem_of_getElem? (i := 2) (by decide +kernel)
set_option maxRecDepth 20000 in
theorem wd_X4_least_3 : Cond.static Lib.Math.min.name ∈ wsX4_least := List.mem_of_getElem? (i := 3) (by decide +kernel)
set_option maxRecDepth 20000 in
theorem wd_X4_least_4 : Cond.initialized "java/lang/Math" ∈ wsX4_least := List.mem_of_getElem? (i := 4) (by decide +kernel)
set_option maxRecDepth 20000 in
theorem wd_X4_least_5 : Cond.code Lib.Math.min.name Lib.Math.min.code 2 (some .int) ∈ wsX4_least := List.mem_of_getElem? (i := 5) (by decide +kernel)
def f_X4_least_L2 (x2 : Int32) (t_size : Int32) (t_cells : Nat → Int32) : (Int32 × Int32) → Option ((Int32 × Int32) ⊕ Int32)
  | (x1, x3) =>
    if t_size ≤ x3 then
      some (.inr x1)
    else
      (f_X4_at t_size t_cells x2 x3).bind (fun r_5 =>
      pl ((if r_5 < x1 then r_5 else x1) : Int32) (fun x1_7 =>
      pl ((x3 + (1 : Int32)) : Int32) (fun x3_8 =>
      some (.inl (x1_7, x3_8)))))
def f_X4_least_L1 (t_size : Int32) (t_cells : Nat → Int32) : (Int32 × Int32) → Option ((Int32 × Int32) ⊕ Int32)
  | (x1, x2) =>
    if t_size ≤ x2 then
      some (.inr x1)
    else
      (lpN (f_X4_least_L2 x2 t_size t_cells) FU (x1, (0 : Int32))).bind (fun x1_9 =>
      pl ((x2 + (1 : Int32)) : Int32) (fun x2_12 =>
      some (.inl (x1_9, x2_12))))
def f_X4_least (t_size : Int32) (t_cells : Nat → Int32) : Option Int32 :=
  (f_X4_at t_size t_cells (0 : Int32) (0 : Int32)).bind (fun r_1 =>
  (lpN (f_X4_least_L1 t_size t_cells) FU (r_1, (0 : Int32))).bind (fun x1_13 =>
  some x1_13))
set_option maxHeartbeats 4000000 in
set_option maxRecDepth 100000 in
theorem l_X4_least_2 {p : Program} {l : Launch} {e : Env} {s : State} {m : MethodId} {args : Array Value} {below : List Frame} {meth : Method} {c : Code} {Q : State → Prop} {A0 : Nat → Prop} {H0 : Heap} (C : CallFix p m c cX4_least 4 s args wsX4_least RX4) (G : GT) (hK : gK G s) (hA : ∀ q : Nat, H0.size ≤ q → A0 q) (q_t q_t_cells : Nat) (x2 : Int32) (t_size : Int32) (t_cells : Nat → Int32) (E_x1 : Int32) (K : ∀ (H : Heap) (locs : List Loc) (ls : Array Slot), va_P G.1 vwCl [(q_t, .inr (3, [.ref q_t_cells, .int t_size])), (q_t_cells, .inl (G.2 0, 49, .inl t_cells))] H → va_D A0 [(q_t, .inr (3, [.ref q_t_cells, .int t_size])), (q_t_cells, .inl (G.2 0, 49, .inl t_cells))] → va_S A0 H0 H locs → lv_has ls 4 [(0, .ref q_t), (1, .int E_x1), (2, .int x2)] → W p l e ({ frames := 2, cells := 0, slots := 0, locals := 60 } : Room) s m args below meth c H locs 0 0 Q (F0 m 44 ls [])) : ∀ (n : Nat) (x1 : Int32) (x3 : Int32), lpN (f_X4_least_L2 x2 t_size t_cells) n (x1, x3) = some E_x1 → ∀ (H : Heap) (locs : List Loc) (ls : Array Slot), va_P G.1 vwCl [(q_t, .inr (3, [.ref q_t_cells, .int t_size])), (q_t_cells, .inl (G.2 0, 49, .inl t_cells))] H → va_D A0 [(q_t, .inr (3, [.ref q_t_cells, .int t_size])), (q_t_cells, .inl (G.2 0, 49, .inl t_cells))] → va_S A0 H0 H locs → lv_has ls 4 [(0, .ref q_t), (1, .int x1), (2, .int x2), (3, .int x3)] → W p l e ({ frames := 2, cells := 0, slots := 0, locals := 60 } : Room) s m args below meth c H locs 0 0 Q (F0 m 19 ls []) := by
  obtain ⟨hx, hb, hml, hown, hts⟩ := C
  intro n
  induction n with
  | zero => intro x1 x3 h; exact absurd h (fun h => lp_0 h)
  | succ n ih =>
    intro x1 x3 h H locs ls hP hD hS hl
    obtain ⟨y, h, hk⟩ := lp_s h
    rw [f_X4_least_L2] at h
    refine lv_iload_n hx hb dX4_least_19 rfl (lv_at hl 3 rfl) ?_
    refine lv_aload_n hx hb dX4_least_20 rfl (lv_at hl 0 rfl) ?_
    refine va_get (D := G.1) (ci := 3) (v := .int t_size) (C := RX4) (T := TX4) (N := 2) hx hb hts wi_X4_least_X4 hown hK hP 0 rfl rfl 1 (by decide) (hts _ wd_X4_least_1) (fun _ h9 => h9) rfl dX4_least_21 ?_
    refine lv_icmp_ge (tgt := 44) hx hb dX4_least_24 (by decide) (fun c_4 => ?_) (fun c_4 => ?_)
    · replace h := it_t h c_4
      obtain rfl := sm1 h
      obtain rfl := sm1 hk
      exact K H locs ls hP hD hS (lv_sub hl [0, 1, 2] rfl)
    · replace h := it_f h c_4
      refine lv_iload_n hx hb dX4_least_27 rfl (lv_at hl 1 rfl) ?_
      refine lv_aload_n hx hb dX4_least_28 rfl (lv_at hl 0 rfl) ?_
      refine lv_iload_n hx hb dX4_least_29 rfl (lv_at hl 2 rfl) ?_
      refine lv_iload_n hx hb dX4_least_30 rfl (lv_at hl 3 rfl) ?_
      obtain ⟨r_5, hf_6, h⟩ := bd_ok h
      refine ck_Vi (rest := [.int x1]) (wn := [(q_t, .inr (3, [.ref q_t_cells, .int t_size])), (q_t_cells, .inl (G.2 0, 49, .inl t_cells))]) ⟨hx, hb, hml, hown, hts⟩ hK hP hD hS hA [0, 1] [] [0, 1] (c_X4_at l G q_t q_t_cells _ t_size t_cells x2 x3 _ hf_6) (cwV 2 hts gX4_least_X4_at rfl rfl rfl (by decide +kernel) ⟨Nat.le_of_ble_eq_true rfl, Nat.le_of_ble_eq_true rfl⟩) rfl rfl rfl rfl rfl rfl (by decide) rfl rfl rfl hl.1 rfl (Nat.le_of_ble_eq_true rfl) dX4_least_31 ⟨Nat.zero_le _, Nat.zero_le _⟩ (fun H locs hP hD hS => ?_)
      refine va_mmin hx hb (hml.trans hl.1.symm) hown (hts _ wd_X4_least_2) (hts _ wd_X4_least_3) (hts _ wd_X4_least_4) (hts _ wd_X4_least_5) (Nat.le_of_ble_eq_true rfl) (Nat.le_of_ble_eq_true rfl) (Nat.zero_le _) (Nat.zero_le _) dX4_least_34 ?_
      refine lv_topi (fun x1_7 ex1_7 => ?_)
      replace h := pl_v h ex1_7
      refine lv_istore_n (lv' := [(1, .int x1_7), (0, .ref q_t), (2, .int x2), (3, .int x3)]) hx hb dX4_least_37 rfl hl (by decide) rfl (fun ls hl => ?_)
      obtain ⟨x3_8, ex3_8, h⟩ := pl_ok h
      refine lv_iinc (v := x3_8) (lv' := [(3, .int x3_8), (1, .int x1_7), (0, .ref q_t), (2, .int x2)]) hx hb dX4_least_38 hl (k := 3) rfl (by rw [ex3_8]; rfl) (by decide) rfl (fun ls hl => ?_)
      refine lv_goto (tgt := 19) hx hb dX4_least_41 (by decide) ?_
      obtain rfl := sm1 h
      exact ih x1_7 x3_8 hk H locs ls hP hD hS (lv_sub hl [2, 1, 3, 0] rfl)
set_option maxHeartbeats 4000000 in
set_option maxRecDepth 100000 in
theorem l_X4_least_1 {p : Program} {l : Launch} {e : Env} {s : State} {m : MethodId} {args : Array Value} {below : List Frame} {meth : Method} {c : Code} {Q : State → Prop} {A0 : Nat → Prop} {H0 : Heap} (C : CallFix p m c cX4_least 4 s args wsX4_least RX4) (G : GT) (hK : gK G s) (hA : ∀ q : Nat, H0.size ≤ q → A0 q) (q_t q_t_cells : Nat) (t_size : Int32) (t_cells : Nat → Int32) (E_x1 : Int32) (K : ∀ (H : Heap) (locs : List Loc) (ls : Array Slot), va_P G.1 vwCl [(q_t, .inr (3, [.ref q_t_cells, .int t_size])), (q_t_cells, .inl (G.2 0, 49, .inl t_cells))] H → va_D A0 [(q_t, .inr (3, [.ref q_t_cells, .int t_size])), (q_t_cells, .inl (G.2 0, 49, .inl t_cells))] → va_S A0 H0 H locs → lv_has ls 4 [(1, .int E_x1)] → W p l e ({ frames := 2, cells := 0, slots := 0, locals := 60 } : Room) s m args below meth c H locs 0 0 Q (F0 m 50 ls [])) : ∀ (n : Nat) (x1 : Int32) (x2 : Int32), lpN (f_X4_least_L1 t_size t_cells) n (x1, x2) = some E_x1 → ∀ (H : Heap) (locs : List Loc) (ls : Array Slot), va_P G.1 vwCl [(q_t, .inr (3, [.ref q_t_cells, .int t_size])), (q_t_cells, .inl (G.2 0, 49, .inl t_cells))] H → va_D A0 [(q_t, .inr (3, [.ref q_t_cells, .int t_size])), (q_t_cells, .inl (G.2 0, 49, .inl t_cells))] → va_S A0 H0 H locs → lv_has ls 4 [(0, .ref q_t), (1, .int x1), (2, .int x2)] → W p l e ({ frames := 2, cells := 0, slots := 0, locals := 60 } : Room) s m args below meth c H locs 0 0 Q (F0 m 9 ls []) := by
  obtain ⟨hx, hb, hml, hown, hts⟩ := C
  intro n
  induction n with
  | zero => intro x1 x2 h; exact absurd h (fun h => lp_0 h)
  | succ n ih =>
    intro x1 x2 h H locs ls hP hD hS hl
    obtain ⟨y, h, hk⟩ := lp_s h
    rw [f_X4_least_L1] at h
    refine lv_iload_n hx hb dX4_least_9 rfl (lv_at hl 2 rfl) ?_
    refine lv_aload_n hx hb dX4_least_10 rfl (lv_at hl 0 rfl) ?_
    refine va_get (D := G.1) (ci := 3) (v := .int t_size) (C := RX4) (T := TX4) (N := 2) hx hb hts wi_X4_least_X4 hown hK hP 0 rfl rfl 1 (by decide) (hts _ wd_X4_least_1) (fun _ h9 => h9) rfl dX4_least_11 ?_
    refine lv_icmp_ge (tgt := 50) hx hb dX4_least_14 (by decide) (fun c_3 => ?_) (fun c_3 => ?_)
    · replace h := it_t h c_3
      obtain rfl := sm1 h
      obtain rfl := sm1 hk
      exact K H locs ls hP hD hS (lv_sub hl [1] rfl)
    · replace h := it_f h c_3
      refine lv_iconst (v := 0) hx hb dX4_least_17 (by decide) ?_
      refine lv_istore_n (lv' := [(3, .int (0 : Int32)), (0, .ref q_t), (1, .int x1), (2, .int x2)]) hx hb dX4_least_18 rfl hl (by decide) rfl (fun ls hl => ?_)
      obtain ⟨x1_9, hz_11, h⟩ := bd_ok h
      refine l_X4_least_2 ⟨hx, hb, hml, hown, hts⟩ G hK hA q_t q_t_cells x2 t_size t_cells x1_9 ?_ FU x1 (0 : Int32) hz_11 H locs ls hP hD hS (lv_sub hl [1, 2, 3, 0] rfl)
      intro H locs ls hP hD hS hl
      obtain ⟨x2_12, ex2_12, h⟩ := pl_ok h
      refine lv_iinc (v := x2_12) (lv' := [(2, .int x2_12), (0, .ref q_t), (1, .int x1_9)]) hx hb dX4_least_44 hl (k := 2) rfl (by rw [ex2_12]; rfl) (by decide) rfl (fun ls hl => ?_)
      refine lv_goto (tgt := 9) hx hb dX4_least_47 (by decide) ?_
      obtain rfl := sm1 h
      exact ih x1_9 x2_12 hk H locs ls hP hD hS (lv_sub hl [1, 2, 0] rfl)
set_option maxHeartbeats 4000000 in
set_option maxRecDepth 100000 in
theorem k_X4_least {p : Program} {l : Launch} {e : Env} {s : State} {m : MethodId} {args : Array Value} {below : List Frame} {meth : Method} {c : Code} {Q : State → Prop} {A0 : Nat → Prop} {H0 : Heap} (C : CallFix p m c cX4_least 4 s args wsX4_least RX4) (G : GT) (hK : gK G s) (hA : ∀ q : Nat, H0.size ≤ q → A0 q) (q_t q_t_cells : Nat) (t_size : Int32) (t_cells : Nat → Int32) (r : Int32) (h : f_X4_least t_size t_cells = some r) (KR : ∀ (H : Heap) (locs : List Loc) (ls : Array Slot) (pc : Nat), decode cX4_least pc = .ok (.ireturn, 1) → va_P G.1 vwCl [(q_t, .inr (3, [.ref q_t_cells, .int t_size])), (q_t_cells, .inl (G.2 0, 49, .inl t_cells))] H → va_D A0 [(q_t, .inr (3, [.ref q_t_cells, .int t_size])), (q_t_cells, .inl (G.2 0, 49, .inl t_cells))] → va_S A0 H0 H locs → W p l e ({ frames := 2, cells := 0, slots := 0, locals := 60 } : Room) s m args below meth c H locs 0 0 Q (F0 m pc ls [.int r])) : ∀ (H : Heap) (locs : List Loc) (ls : Array Slot), va_P G.1 vwCl [(q_t, .inr (3, [.ref q_t_cells, .int t_size])), (q_t_cells, .inl (G.2 0, 49, .inl t_cells))] H → va_D A0 [(q_t, .inr (3, [.ref q_t_cells, .int t_size])), (q_t_cells, .inl (G.2 0, 49, .inl t_cells))] → va_S A0 H0 H locs → lv_has ls 4 [(0, .ref q_t)] → W p l e ({ frames := 2, cells := 0, slots := 0, locals := 60 } : Room) s m args below meth c H locs 0 0 Q (F0 m 0 ls []) := by
  obtain ⟨hx, hb, hml, hown, hts⟩ := C
  intro H locs ls hP hD hS hl
  rw [f_X4_least] at h
  refine lv_aload_n hx hb dX4_least_0 rfl (lv_at hl 0 rfl) ?_
  refine lv_iconst (v := 0) hx hb dX4_least_1 (by decide) ?_
  refine lv_iconst (v := 0) hx hb dX4_least_2 (by decide) ?_
  obtain ⟨r_1, hf_2, h⟩ := bd_ok h
  refine ck_Vi (rest := []) (wn := [(q_t, .inr (3, [.ref q_t_cells, .int t_size])), (q_t_cells, .inl (G.2 0, 49, .inl t_cells))]) ⟨hx, hb, hml, hown, hts⟩ hK hP hD hS hA [0, 1] [] [0, 1] (c_X4_at l G q_t q_t_cells _ t_size t_cells (0 : Int32) (0 : Int32) _ hf_2) (cwV 2 hts gX4_least_X4_at rfl rfl rfl (by decide +kernel) ⟨Nat.le_of_ble_eq_true rfl, Nat.le_of_ble_eq_true rfl⟩) rfl rfl rfl rfl rfl rfl (by decide) rfl rfl rfl hl.1 rfl (Nat.le_of_ble_eq_true rfl) dX4_least_3 ⟨Nat.zero_le _, Nat.zero_le _⟩ (fun H locs hP hD hS => ?_)
  refine lv_istore_n (lv' := [(1, .int r_1), (0, .ref q_t)]) hx hb dX4_least_6 rfl hl (by decide) rfl (fun ls hl => ?_)
  refine lv_iconst (v := 0) hx hb dX4_least_7 (by decide) ?_
  refine lv_istore_n (lv' := [(2, .int (0 : Int32)), (1, .int r_1), (0, .ref q_t)]) hx hb dX4_least_8 rfl hl (by decide) rfl (fun ls hl => ?_)
  obtain ⟨x1_13, hz_15, h⟩ := bd_ok h
  refine l_X4_least_1 ⟨hx, hb, hml, hown, hts⟩ G hK hA q_t q_t_cells t_size t_cells x1_13 ?_ FU r_1 (0 : Int32) hz_15 H locs ls hP hD hS (lv_sub hl [2, 1, 0] rfl)
  intro H locs ls hP hD hS hl
  refine lv_iload_n hx hb dX4_least_50 rfl (lv_at hl 0 rfl) ?_
  obtain rfl := sm1 h
  exact KR H locs ls 51 dX4_least_51 hP hD hS
set_option maxHeartbeats 4000000 in
set_option maxRecDepth 100000 in
theorem c_X4_least (l : Launch) (G : GT) (q_t q_t_cells : Nat) (sz : Nat) (t_size : Int32) (t_cells : Nat → Int32) (r : Int32) (h : f_X4_least t_size t_cells = some r) : Met l yX4_least wsX4_least ({ frames := 2, cells := 0, slots := 0, locals := 60 } : Room) (va_Pc [.ref q_t] (pcW G [(q_t, .inr (3, [.ref q_t_cells, .int t_size])), (q_t_cells, .inl (G.2 0, 49, .inl t_cells))] sz)) (va_Qi (fun r9 (_ : Unit) => r9 = r) (fun _ t => atW G (va_A [(q_t, .inr (3, [.ref q_t_cells, .int t_size])), (q_t_cells, .inl (G.2 0, 49, .inl t_cells))] sz) [(q_t, .inr (3, [.ref q_t_cells, .int t_size])), (q_t_cells, .inl (G.2 0, 49, .inl t_cells))] t) (va_A [(q_t, .inr (3, [.ref q_t_cells, .int t_size])), (q_t_cells, .inl (G.2 0, 49, .inl t_cells))] sz)) 0 0 (va_A [(q_t, .inr (3, [.ref q_t_cells, .int t_size])), (q_t_cells, .inl (G.2 0, 49, .inl t_cells))] sz) := by
  refine Met.ofW (cc := cX4_least) (maxL := 4) (ret := (some .int)) (by decide) rfl ?_
  intro p e s m args below meth c s₁ B hml hv
  obtain ⟨rfl, hsz, hP, hK, hD0⟩ := hv
  subst hsz
  have hD := hD0.self (sz := s.heap.size)
  generalize hAe : va_A [(q_t, .inr (3, [.ref q_t_cells, .int t_size])), (q_t_cells, .inl (G.2 0, 49, .inl t_cells))] s.heap.size = A at hD ⊢
  have hA : ∀ q : Nat, s.heap.size ≤ q → A q := fun q h => by rw [← hAe]; exact Or.inr h
  have hl := lv_entry ([.ref q_t]) (n := 4) (Nat.le_of_ble_eq_true rfl)
  rw [lg_entry_eq]
  refine k_X4_least ⟨B.exec, B.bytes, hml, findClass_of_methodNamed B.named, atoms_spec (ws := wsX4_least) B.pre⟩ G hK hA q_t q_t_cells _ _ _ h ?_ _ _ _ hP hD va_S.rf hl
  intro H locs ls pc hd hP hD hS
  exact W.iret B.exec B.bytes B.returns (fun t ht hW => ⟨⟨r, (), rfl, rfl, by rw [ht]; exact hP, hD⟩, hS.F ht⟩) hS.2.2 hd B.notSynchronized
set_option maxRecDepth 20000 in
theorem wd_X4_isSymmetric_1 : Cond.fieldLink RX4 15 "PermanentDesk$Matrix" "size" "I" ∈ wsX4_isSymmetric := List.mem_of_getElem? (i := 1) (by decide +kernel)
set_option maxRecDepth 20000 in
theorem wi_X4_isSymmetric_X4 : ∀ w ∈ u_ws RX4 TX4 2, w ∈ wsX4_isSymmetric := by decide +kernel
def f_X4_isSymmetric_L2 (x1 : Int32) (t_size : Int32) (t_cells : Nat → Int32) : Int32 → Option (Int32 ⊕ (Unit ⊕ Int32))
  | x2 =>
    if x1 ≤ x2 then
      some (.inr (.inl ()))
    else
      (f_X4_at t_size t_cells x1 x2).bind (fun r_3 =>
      (f_X4_at t_size t_cells x2 x1).bind (fun r_5 =>
      if r_3 = r_5 then
        pl ((x2 + (1 : Int32)) : Int32) (fun x2_8 =>
        some (.inl x2_8))
      else
        some (.inr (.inr (0 : Int32)))))
def f_X4_isSymmetric_L1 (t_size : Int32) (t_cells : Nat → Int32) : Int32 → Option (Int32 ⊕ (Unit ⊕ Int32))
  | x1 =>
    if t_size ≤ x1 then
      some (.inr (.inl ()))
    else
      (lpN (f_X4_isSymmetric_L2 x1 t_size t_cells) FU (0 : Int32)).bind (fun z_9 => match z_9 with
      | .inl () =>
        pl ((x1 + (1 : Int32)) : Int32) (fun x1_11 =>
        some (.inl x1_11))
      | .inr r_12 => some (.inr (.inr r_12)))
def f_X4_isSymmetric (t_size : Int32) (t_cells : Nat → Int32) : Option Int32 :=
  (lpN (f_X4_isSymmetric_L1 t_size t_cells) FU (1 : Int32)).bind (fun z_13 => match z_13 with
  | .inl () =>
    some (1 : Int32)
  | .inr r_15 => some r_15)
set_option maxHeartbeats 4000000 in
set_option maxRecDepth 100000 in
theorem l_X4_isSymmetric_2 {p : Program} {l : Launch} {e : Env} {s : State} {m : MethodId} {args : Array Value} {below : List Frame} {meth : Method} {c : Code} {Q : State → Prop} {A0 : Nat → Prop} {H0 : Heap} (C : CallFix p m c cX4_isSymmetric 3 s args wsX4_isSymmetric RX4) (G : GT) (hK : gK G s) (hA : ∀ q : Nat, H0.size ≤ q → A0 q) (q_t q_t_cells : Nat) (x1 : Int32) (t_size : Int32) (t_cells : Nat → Int32) (z : (Unit ⊕ Int32)) (K : z = .inl () → ∀ (H : Heap) (locs : List Loc) (ls : Array Slot), va_P G.1 vwCl [(q_t, .inr (3, [.ref q_t_cells, .int t_size])), (q_t_cells, .inl (G.2 0, 49, .inl t_cells))] H → va_D A0 [(q_t, .inr (3, [.ref q_t_cells, .int t_size])), (q_t_cells, .inl (G.2 0, 49, .inl t_cells))] → va_S A0 H0 H locs → lv_has ls 3 [(0, .ref q_t), (1, .int x1)] → W p l e ({ frames := 2, cells := 0, slots := 0, locals := 43 } : Room) s m args below meth c H locs 0 0 Q (F0 m 40 ls [])) (KR : ∀ (r : Int32), z = .inr r → ∀ (H : Heap) (locs : List Loc) (ls : Array Slot) (pc : Nat), decode cX4_isSymmetric pc = .ok (.ireturn, 1) → (r = 0 ∨ r = 1) → va_P G.1 vwCl [(q_t, .inr (3, [.ref q_t_cells, .int t_size])), (q_t_cells, .inl (G.2 0, 49, .inl t_cells))] H → va_D A0 [(q_t, .inr (3, [.ref q_t_cells, .int t_size])), (q_t_cells, .inl (G.2 0, 49, .inl t_cells))] → va_S A0 H0 H locs → W p l e ({ frames := 2, cells := 0, slots := 0, locals := 43 } : Room) s m args below meth c H locs 0 0 Q (F0 m pc ls [.int r])) : ∀ (n : Nat) (x2 : Int32), lpN (f_X4_isSymmetric_L2 x1 t_size t_cells) n x2 = some z → ∀ (H : Heap) (locs : List Loc) (ls : Array Slot), va_P G.1 vwCl [(q_t, .inr (3, [.ref q_t_cells, .int t_size])), (q_t_cells, .inl (G.2 0, 49, .inl t_cells))] H → va_D A0 [(q_t, .inr (3, [.ref q_t_cells, .int t_size])), (q_t_cells, .inl (G.2 0, 49, .inl t_cells))] → va_S A0 H0 H locs → lv_has ls 3 [(0, .ref q_t), (1, .int x1), (2, .int x2)] → W p l e ({ frames := 2, cells := 0, slots := 0, locals := 43 } : Room) s m args below meth c H locs 0 0 Q (F0 m 12 ls []) := by
  obtain ⟨hx, hb, hml, hown, hts⟩ := C
  intro n
  induction n with
  | zero => intro x2 h; exact absurd h (fun h => lp_0 h)
  | succ n ih =>
    intro x2 h H locs ls hP hD hS hl
    obtain ⟨y, h, hk⟩ := lp_s h
    rw [f_X4_isSymmetric_L2] at h
    refine lv_iload_n hx hb dX4_isSymmetric_12 rfl (lv_at hl 2 rfl) ?_
    refine lv_iload_n hx hb dX4_isSymmetric_13 rfl (lv_at hl 1 rfl) ?_
    refine lv_icmp_ge (tgt := 40) hx hb dX4_isSymmetric_14 (by decide) (fun c_2 => ?_) (fun c_2 => ?_)
    · replace h := it_t h c_2
      obtain rfl := sm1 h
      obtain rfl := sm1 hk
      exact K  rfl H locs ls hP hD hS (lv_sub hl [0, 1] rfl)
    · replace h := it_f h c_2
      refine lv_aload_n hx hb dX4_isSymmetric_17 rfl (lv_at hl 0 rfl) ?_
      refine lv_iload_n hx hb dX4_isSymmetric_18 rfl (lv_at hl 1 rfl) ?_
      refine lv_iload_n hx hb dX4_isSymmetric_19 rfl (lv_at hl 2 rfl) ?_
      obtain ⟨r_3, hf_4, h⟩ := bd_ok h
      refine ck_Vi (rest := []) (wn := [(q_t, .inr (3, [.ref q_t_cells, .int t_size])), (q_t_cells, .inl (G.2 0, 49, .inl t_cells))]) ⟨hx, hb, hml, hown, hts⟩ hK hP hD hS hA [0, 1] [] [0, 1] (c_X4_at l G q_t q_t_cells _ t_size t_cells x1 x2 _ hf_4) (cwV 2 hts gX4_isSymmetric_X4_at rfl rfl rfl (by decide +kernel) ⟨Nat.le_of_ble_eq_true rfl, Nat.le_of_ble_eq_true rfl⟩) rfl rfl rfl rfl rfl rfl (by decide) rfl rfl rfl hl.1 rfl (Nat.le_of_ble_eq_true rfl) dX4_isSymmetric_20 ⟨Nat.zero_le _, Nat.zero_le _⟩ (fun H locs hP hD hS => ?_)
      refine lv_aload_n hx hb dX4_isSymmetric_23 rfl (lv_at hl 0 rfl) ?_
      refine lv_iload_n hx hb dX4_isSymmetric_24 rfl (lv_at hl 2 rfl) ?_
      refine lv_iload_n hx hb dX4_isSymmetric_25 rfl (lv_at hl 1 rfl) ?_
      obtain ⟨r_5, hf_6, h⟩ := bd_ok h
      refine ck_Vi (rest := [.int r_3]) (wn := [(q_t, .inr (3, [.ref q_t_cells, .int t_size])), (q_t_cells, .inl (G.2 0, 49, .inl t_cells))]) ⟨hx, hb, hml, hown, hts⟩ hK hP hD hS hA [0, 1] [] [0, 1] (c_X4_at l G q_t q_t_cells _ t_size t_cells x2 x1 _ hf_6) (cwV 2 hts gX4_isSymmetric_X4_at rfl rfl rfl (by decide +kernel) ⟨Nat.le_of_ble_eq_true rfl, Nat.le_of_ble_eq_true rfl⟩) rfl rfl rfl rfl rfl rfl (by decide) rfl rfl rfl hl.1 rfl (Nat.le_of_ble_eq_true rfl) dX4_isSymmetric_26 ⟨Nat.zero_le _, Nat.zero_le _⟩ (fun H locs hP hD hS => ?_)
      refine lv_icmp_eq (tgt := 34) hx hb dX4_isSymmetric_29 (by decide) (fun c_7 => ?_) (fun c_7 => ?_)
      · replace h := it_t h c_7
        obtain ⟨x2_8, ex2_8, h⟩ := pl_ok h
        refine lv_iinc (v := x2_8) (lv' := [(2, .int x2_8), (0, .ref q_t), (1, .int x1)]) hx hb dX4_isSymmetric_34 hl (k := 2) rfl (by rw [ex2_8]; rfl) (by decide) rfl (fun ls hl => ?_)
        refine lv_goto (tgt := 12) hx hb dX4_isSymmetric_37 (by decide) ?_
        obtain rfl := sm1 h
        exact ih x2_8 hk H locs ls hP hD hS (lv_sub hl [1, 2, 0] rfl)
      · replace h := it_f h c_7
        refine lv_iconst (v := 0) hx hb dX4_isSymmetric_32 (by decide) ?_
        obtain rfl := sm1 h
        obtain rfl := sm1 hk
        exact KR (0 : Int32) rfl H locs ls 33 dX4_isSymmetric_33 (Or.inl rfl) hP hD hS
set_option maxHeartbeats 4000000 in
set_option maxRecDepth 100000 in
theorem l_X4_isSymmetric_1 {p : Program} {l : Launch} {e : Env} {s : State} {m : MethodId} {args : Array Value} {below : List Frame} {meth : Method} {c : Code} {Q : State → Prop} {A0 : Nat → Prop} {H0 : Heap} (C : CallFix p m c cX4_isSymmetric 3 s args wsX4_isSymmetric RX4) (G : GT) (hK : gK G s) (hA : ∀ q : Nat, H0.size ≤ q → A0 q) (q_t q_t_cells : Nat) (t_size : Int32) (t_cells : Nat → Int32) (z : (Unit ⊕ Int32)) (K : z = .inl () → ∀ (H : Heap) (locs : List Loc) (ls : Array Slot), va_P G.1 vwCl [(q_t, .inr (3, [.ref q_t_cells, .int t_size])), (q_t_cells, .inl (G.2 0, 49, .inl t_cells))] H → va_D A0 [(q_t, .inr (3, [.ref q_t_cells, .int t_size])), (q_t_cells, .inl (G.2 0, 49, .inl t_cells))] → va_S A0 H0 H locs → lv_has ls 3 [] → W p l e ({ frames := 2, cells := 0, slots := 0, locals := 43 } : Room) s m args below meth c H locs 0 0 Q (F0 m 46 ls [])) (KR : ∀ (r : Int32), z = .inr r → ∀ (H : Heap) (locs : List Loc) (ls : Array Slot) (pc : Nat), decode cX4_isSymmetric pc = .ok (.ireturn, 1) → (r = 0 ∨ r = 1) → va_P G.1 vwCl [(q_t, .inr (3, [.ref q_t_cells, .int t_size])), (q_t_cells, .inl (G.2 0, 49, .inl t_cells))] H → va_D A0 [(q_t, .inr (3, [.ref q_t_cells, .int t_size])), (q_t_cells, .inl (G.2 0, 49, .inl t_cells))] → va_S A0 H0 H locs → W p l e ({ frames := 2, cells := 0, slots := 0, locals := 43 } : Room) s m args below meth c H locs 0 0 Q (F0 m pc ls [.int r])) : ∀ (n : Nat) (x1 : Int32), lpN (f_X4_isSymmetric_L1 t_size t_cells) n x1 = some z → ∀ (H : Heap) (locs : List Loc) (ls : Array Slot), va_P G.1 vwCl [(q_t, .inr (3, [.ref q_t_cells, .int t_size])), (q_t_cells, .inl (G.2 0, 49, .inl t_cells))] H → va_D A0 [(q_t, .inr (3, [.ref q_t_cells, .int t_size])), (q_t_cells, .inl (G.2 0, 49, .inl t_cells))] → va_S A0 H0 H locs → lv_has ls 3 [(0, .ref q_t), (1, .int x1)] → W p l e ({ frames := 2, cells := 0, slots := 0, locals := 43 } : Room) s m args below meth c H locs 0 0 Q (F0 m 2 ls []) := by
  obtain ⟨hx, hb, hml, hown, hts⟩ := C
  intro n
  induction n with
  | zero => intro x1 h; exact absurd h (fun h => lp_0 h)
  | succ n ih =>
    intro x1 h H locs ls hP hD hS hl
    obtain ⟨y, h, hk⟩ := lp_s h
    rw [f_X4_isSymmetric_L1] at h
    refine lv_iload_n hx hb dX4_isSymmetric_2 rfl (lv_at hl 1 rfl) ?_
    refine lv_aload_n hx hb dX4_isSymmetric_3 rfl (lv_at hl 0 rfl) ?_
    refine va_get (D := G.1) (ci := 3) (v := .int t_size) (C := RX4) (T := TX4) (N := 2) hx hb hts wi_X4_isSymmetric_X4 hown hK hP 0 rfl rfl 1 (by decide) (hts _ wd_X4_isSymmetric_1) (fun _ h9 => h9) rfl dX4_isSymmetric_4 ?_
    refine lv_icmp_ge (tgt := 46) hx hb dX4_isSymmetric_7 (by decide) (fun c_1 => ?_) (fun c_1 => ?_)
    · replace h := it_t h c_1
      obtain rfl := sm1 h
      obtain rfl := sm1 hk
      exact K  rfl H locs ls hP hD hS (lv_sub hl [] rfl)
    · replace h := it_f h c_1
      refine lv_iconst (v := 0) hx hb dX4_isSymmetric_10 (by decide) ?_
      refine lv_istore_n (lv' := [(2, .int (0 : Int32)), (0, .ref q_t), (1, .int x1)]) hx hb dX4_isSymmetric_11 rfl hl (by decide) rfl (fun ls hl => ?_)
      obtain ⟨z_9, hz_10, h⟩ := bd_ok h
      refine l_X4_isSymmetric_2 ⟨hx, hb, hml, hown, hts⟩ G hK hA q_t q_t_cells x1 t_size t_cells z_9 ?_ ?_ FU (0 : Int32) hz_10 H locs ls hP hD hS (lv_sub hl [1, 2, 0] rfl)
      · intro  hz H locs ls hP hD hS hl
        subst hz
        obtain ⟨x1_11, ex1_11, h⟩ := pl_ok h
        refine lv_iinc (v := x1_11) (lv' := [(1, .int x1_11), (0, .ref q_t)]) hx hb dX4_isSymmetric_40 hl (k := 1) rfl (by rw [ex1_11]; rfl) (by decide) rfl (fun ls hl => ?_)
        refine lv_goto (tgt := 2) hx hb dX4_isSymmetric_43 (by decide) ?_
        obtain rfl := sm1 h
        exact ih x1_11 hk H locs ls hP hD hS (lv_sub hl [1, 0] rfl)
      · intro r_12 hz H locs ls pc hd hbo hP hD hS
        subst hz
        obtain rfl := sm1 h
        obtain rfl := sm1 hk
        exact KR r_12 rfl H locs ls pc hd hbo hP hD hS
set_option maxHeartbeats 4000000 in
set_option maxRecDepth 100000 in
theorem k_X4_isSymmetric {p : Program} {l : Launch} {e : Env} {s : State} {m : MethodId} {args : Array Value} {below : List Frame} {meth : Method} {c : Code} {Q : State → Prop} {A0 : Nat → Prop} {H0 : Heap} (C : CallFix p m c cX4_isSymmetric 3 s args wsX4_isSymmetric RX4) (G : GT) (hK : gK G s) (hA : ∀ q : Nat, H0.size ≤ q → A0 q) (q_t q_t_cells : Nat) (t_size : Int32) (t_cells : Nat → Int32) (r : Int32) (h : f_X4_isSymmetric t_size t_cells = some r) (KR : ∀ (H : Heap) (locs : List Loc) (ls : Array Slot) (pc : Nat), decode cX4_isSymmetric pc = .ok (.ireturn, 1) → (r = 0 ∨ r = 1) → va_P G.1 vwCl [(q_t, .inr (3, [.ref q_t_cells, .int t_size])), (q_t_cells, .inl (G.2 0, 49, .inl t_cells))] H → va_D A0 [(q_t, .inr (3, [.ref q_t_cells, .int t_size])), (q_t_cells, .inl (G.2 0, 49, .inl t_cells))] → va_S A0 H0 H locs → W p l e ({ frames := 2, cells := 0, slots := 0, locals := 43 } : Room) s m args below meth c H locs 0 0 Q (F0 m pc ls [.int r])) : ∀ (H : Heap) (locs : List Loc) (ls : Array Slot), va_P G.1 vwCl [(q_t, .inr (3, [.ref q_t_cells, .int t_size])), (q_t_cells, .inl (G.2 0, 49, .inl t_cells))] H → va_D A0 [(q_t, .inr (3, [.ref q_t_cells, .int t_size])), (q_t_cells, .inl (G.2 0, 49, .inl t_cells))] → va_S A0 H0 H locs → lv_has ls 3 [(0, .ref q_t)] → W p l e ({ frames := 2, cells := 0, slots := 0, locals := 43 } : Room) s m args below meth c H locs 0 0 Q (F0 m 0 ls []) := by
  obtain ⟨hx, hb, hml, hown, hts⟩ := C
  intro H locs ls hP hD hS hl
  rw [f_X4_isSymmetric] at h
  refine lv_iconst (v := 1) hx hb dX4_isSymmetric_0 (by decide) ?_
  refine lv_istore_n (lv' := [(1, .int (1 : Int32)), (0, .ref q_t)]) hx hb dX4_isSymmetric_1 rfl hl (by decide) rfl (fun ls hl => ?_)
  obtain ⟨z_13, hz_14, h⟩ := bd_ok h
  refine l_X4_isSymmetric_1 ⟨hx, hb, hml, hown, hts⟩ G hK hA q_t q_t_cells t_size t_cells z_13 ?_ ?_ FU (1 : Int32) hz_14 H locs ls hP hD hS (lv_sub hl [1, 0] rfl)
  · intro  hz H locs ls hP hD hS hl
    subst hz
    refine lv_iconst (v := 1) hx hb dX4_isSymmetric_46 (by decide) ?_
    obtain rfl := sm1 h
    exact KR H locs ls 47 dX4_isSymmetric_47 (Or.inr rfl) hP hD hS
  · intro r_15 hz H locs ls pc hd hbo hP hD hS
    subst hz
    obtain rfl := sm1 h
    exact KR H locs ls pc hd hbo hP hD hS
set_option maxHeartbeats 4000000 in
set_option maxRecDepth 100000 in
theorem c_X4_isSymmetric (l : Launch) (G : GT) (q_t q_t_cells : Nat) (sz : Nat) (t_size : Int32) (t_cells : Nat → Int32) (r : Int32) (h : f_X4_isSymmetric t_size t_cells = some r) : Met l yX4_isSymmetric wsX4_isSymmetric ({ frames := 2, cells := 0, slots := 0, locals := 43 } : Room) (va_Pc [.ref q_t] (pcW G [(q_t, .inr (3, [.ref q_t_cells, .int t_size])), (q_t_cells, .inl (G.2 0, 49, .inl t_cells))] sz)) (va_Qi (fun r9 (_ : Unit) => r9 = r) (fun _ t => atW G (va_A [(q_t, .inr (3, [.ref q_t_cells, .int t_size])), (q_t_cells, .inl (G.2 0, 49, .inl t_cells))] sz) [(q_t, .inr (3, [.ref q_t_cells, .int t_size])), (q_t_cells, .inl (G.2 0, 49, .inl t_cells))] t) (va_A [(q_t, .inr (3, [.ref q_t_cells, .int t_size])), (q_t_cells, .inl (G.2 0, 49, .inl t_cells))] sz)) 0 0 (va_A [(q_t, .inr (3, [.ref q_t_cells, .int t_size])), (q_t_cells, .inl (G.2 0, 49, .inl t_cells))] sz) := by
  refine Met.ofW (cc := cX4_isSymmetric) (maxL := 3) (ret := (some .boolean)) (by decide) rfl ?_
  intro p e s m args below meth c s₁ B hml hv
  obtain ⟨rfl, hsz, hP, hK, hD0⟩ := hv
  subst hsz
  have hD := hD0.self (sz := s.heap.size)
  generalize hAe : va_A [(q_t, .inr (3, [.ref q_t_cells, .int t_size])), (q_t_cells, .inl (G.2 0, 49, .inl t_cells))] s.heap.size = A at hD ⊢
  have hA : ∀ q : Nat, s.heap.size ≤ q → A q := fun q h => by rw [← hAe]; exact Or.inr h
  have hl := lv_entry ([.ref q_t]) (n := 3) (Nat.le_of_ble_eq_true rfl)
  rw [lg_entry_eq]
  refine k_X4_isSymmetric ⟨B.exec, B.bytes, hml, findClass_of_methodNamed B.named, atoms_spec (ws := wsX4_isSymmetric) B.pre⟩ G hK hA q_t q_t_cells _ _ _ h ?_ _ _ _ hP hD va_S.rf hl
  intro H locs ls pc hd hbo hP hD hS
  exact W.zret B.exec B.bytes B.returns (by rcases hbo with e | e <;> subst e <;> rfl) (fun t ht hW => ⟨⟨r, (), rfl, rfl, by rw [ht]; exact hP, hD⟩, hS.F ht⟩) hS.2.2 hd B.notSynchronized
set_option maxRecDepth 20000 in
theorem wd_X4_hasLikeSums_1 : Cond.fieldLink RX4 15 "PermanentDesk$Matrix" "size" "I" ∈ wsX4_hasLikeSums := List.mem_of_getElem? (i := 1) (by decide +kernel)
set_option maxRecDepth 20000 in
theorem wi_X4_hasLikeSums_X4 : ∀ w ∈ u_ws RX4 TX4 2, w ∈ wsX4_hasLikeSums := by decide +kernel
def f_X4_hasLikeSums_L1 (x1 : Int32) (t_size : Int32) (t_cells : Nat → Int32) : Int32 → Option (Int32 ⊕ (Unit ⊕ Int32))
  | x2 =>
    if t_size ≤ x2 then
      some (.inr (.inl ()))
    else
      (f_X4_sumOfRow t_size t_cells x2).bind (fun r_4 =>
      if r_4 = x1 then
        (f_X4_sumOfColumn t_size t_cells x2).bind (fun r_7 =>
        if r_7 = x1 then
          pl ((x2 + (1 : Int32)) : Int32) (fun x2_10 =>
          some (.inl x2_10))
        else
          some (.inr (.inr (0 : Int32))))
      else
        some (.inr (.inr (0 : Int32))))
def f_X4_hasLikeSums (t_size : Int32) (t_cells : Nat → Int32) : Option Int32 :=
  (f_X4_sumOfRow t_size t_cells (0 : Int32)).bind (fun r_1 =>
  (lpN (f_X4_hasLikeSums_L1 r_1 t_size t_cells) FU (0 : Int32)).bind (fun z_11 => match z_11 with
  | .inl () =>
    some (1 : Int32)
  | .inr r_13 => some r_13))
set_option maxHeartbeats 4000000 in
set_option maxRecDepth 100000 in
theorem l_X4_hasLikeSums_1 {p : Program} {l : Launch} {e : Env} {s : State} {m : MethodId} {args : Array Value} {below : List Frame} {meth : Method} {c : Code} {Q : State → Prop} {A0 : Nat → Prop} {H0 : Heap} (C : CallFix p m c cX4_hasLikeSums 3 s args wsX4_hasLikeSums RX4) (G : GT) (hK : gK G s) (hA : ∀ q : Nat, H0.size ≤ q → A0 q) (q_t q_t_cells : Nat) (x1 : Int32) (t_size : Int32) (t_cells : Nat → Int32) (z : (Unit ⊕ Int32)) (K : z = .inl () → ∀ (H : Heap) (locs : List Loc) (ls : Array Slot), va_P G.1 vwCl [(q_t, .inr (3, [.ref q_t_cells, .int t_size])), (q_t_cells, .inl (G.2 0, 49, .inl t_cells))] H → va_D A0 [(q_t, .inr (3, [.ref q_t_cells, .int t_size])), (q_t_cells, .inl (G.2 0, 49, .inl t_cells))] → va_S A0 H0 H locs → lv_has ls 3 [] → W p l e ({ frames := 3, cells := 0, slots := 0, locals := 66 } : Room) s m args below meth c H locs 0 0 Q (F0 m 42 ls [])) (KR : ∀ (r : Int32), z = .inr r → ∀ (H : Heap) (locs : List Loc) (ls : Array Slot) (pc : Nat), decode cX4_hasLikeSums pc = .ok (.ireturn, 1) → (r = 0 ∨ r = 1) → va_P G.1 vwCl [(q_t, .inr (3, [.ref q_t_cells, .int t_size])), (q_t_cells, .inl (G.2 0, 49, .inl t_cells))] H → va_D A0 [(q_t, .inr (3, [.ref q_t_cells, .int t_size])), (q_t_cells, .inl (G.2 0, 49, .inl t_cells))] → va_S A0 H0 H locs → W p l e ({ frames := 3, cells := 0, slots := 0, locals := 66 } : Room) s m args below meth c H locs 0 0 Q (F0 m pc ls [.int r])) : ∀ (n : Nat) (x2 : Int32), lpN (f_X4_hasLikeSums_L1 x1 t_size t_cells) n x2 = some z → ∀ (H : Heap) (locs : List Loc) (ls : Array Slot), va_P G.1 vwCl [(q_t, .inr (3, [.ref q_t_cells, .int t_size])), (q_t_cells, .inl (G.2 0, 49, .inl t_cells))] H → va_D A0 [(q_t, .inr (3, [.ref q_t_cells, .int t_size])), (q_t_cells, .inl (G.2 0, 49, .inl t_cells))] → va_S A0 H0 H locs → lv_has ls 3 [(0, .ref q_t), (1, .int x1), (2, .int x2)] → W p l e ({ frames := 3, cells := 0, slots := 0, locals := 66 } : Room) s m args below meth c H locs 0 0 Q (F0 m 8 ls []) := by
  obtain ⟨hx, hb, hml, hown, hts⟩ := C
  intro n
  induction n with
  | zero => intro x2 h; exact absurd h (fun h => lp_0 h)
  | succ n ih =>
    intro x2 h H locs ls hP hD hS hl
    obtain ⟨y, h, hk⟩ := lp_s h
    rw [f_X4_hasLikeSums_L1] at h
    refine lv_iload_n hx hb dX4_hasLikeSums_8 rfl (lv_at hl 2 rfl) ?_
    refine lv_aload_n hx hb dX4_hasLikeSums_9 rfl (lv_at hl 0 rfl) ?_
    refine va_get (D := G.1) (ci := 3) (v := .int t_size) (C := RX4) (T := TX4) (N := 2) hx hb hts wi_X4_hasLikeSums_X4 hown hK hP 0 rfl rfl 1 (by decide) (hts _ wd_X4_hasLikeSums_1) (fun _ h9 => h9) rfl dX4_hasLikeSums_10 ?_
    refine lv_icmp_ge (tgt := 42) hx hb dX4_hasLikeSums_13 (by decide) (fun c_3 => ?_) (fun c_3 => ?_)
    · replace h := it_t h c_3
      obtain rfl := sm1 h
      obtain rfl := sm1 hk
      exact K  rfl H locs ls hP hD hS (lv_sub hl [] rfl)
    · replace h := it_f h c_3
      refine lv_aload_n hx hb dX4_hasLikeSums_16 rfl (lv_at hl 0 rfl) ?_
      refine lv_iload_n hx hb dX4_hasLikeSums_17 rfl (lv_at hl 2 rfl) ?_
      obtain ⟨r_4, hf_5, h⟩ := bd_ok h
      refine ck_Vi (rest := []) (wn := [(q_t, .inr (3, [.ref q_t_cells, .int t_size])), (q_t_cells, .inl (G.2 0, 49, .inl t_cells))]) ⟨hx, hb, hml, hown, hts⟩ hK hP hD hS hA [0, 1] [] [0, 1] (c_X4_sumOfRow l G q_t q_t_cells _ t_size t_cells x2 _ hf_5) (cwV 1 hts gX4_hasLikeSums_X4_sumOfRow rfl rfl rfl (by decide +kernel) ⟨Nat.le_of_ble_eq_true rfl, Nat.le_of_ble_eq_true rfl⟩) rfl rfl rfl rfl rfl rfl (by decide) rfl rfl rfl hl.1 rfl (Nat.le_of_ble_eq_true rfl) dX4_hasLikeSums_18 ⟨Nat.zero_le _, Nat.zero_le _⟩ (fun H locs hP hD hS => ?_)
      refine lv_iload_n hx hb dX4_hasLikeSums_21 rfl (lv_at hl 1 rfl) ?_
      refine lv_icmp_ne (tgt := 34) hx hb dX4_hasLikeSums_22 (by decide) (fun c_6 => ?_) (fun c_6 => ?_)
      · replace h := it_f h c_6
        refine lv_iconst (v := 0) hx hb dX4_hasLikeSums_34 (by decide) ?_
        obtain rfl := sm1 h
        obtain rfl := sm1 hk
        exact KR (0 : Int32) rfl H locs ls 35 dX4_hasLikeSums_35 (Or.inl rfl) hP hD hS
      · replace h := it_t h c_6
        refine lv_aload_n hx hb dX4_hasLikeSums_25 rfl (lv_at hl 0 rfl) ?_
        refine lv_iload_n hx hb dX4_hasLikeSums_26 rfl (lv_at hl 2 rfl) ?_
        obtain ⟨r_7, hf_8, h⟩ := bd_ok h
        refine ck_Vi (rest := []) (wn := [(q_t, .inr (3, [.ref q_t_cells, .int t_size])), (q_t_cells, .inl (G.2 0, 49, .inl t_cells))]) ⟨hx, hb, hml, hown, hts⟩ hK hP hD hS hA [0, 1] [] [0, 1] (c_X4_sumOfColumn l G q_t q_t_cells _ t_size t_cells x2 _ hf_8) (cwV 1 hts gX4_hasLikeSums_X4_sumOfColumn rfl rfl rfl (by decide +kernel) ⟨Nat.le_of_ble_eq_true rfl, Nat.le_of_ble_eq_true rfl⟩) rfl rfl rfl rfl rfl rfl (by decide) rfl rfl rfl hl.1 rfl (Nat.le_of_ble_eq_true rfl) dX4_hasLikeSums_27 ⟨Nat.zero_le _, Nat.zero_le _⟩ (fun H locs hP hD hS => ?_)
        refine lv_iload_n hx hb dX4_hasLikeSums_30 rfl (lv_at hl 1 rfl) ?_
        refine lv_icmp_eq (tgt := 36) hx hb dX4_hasLikeSums_31 (by decide) (fun c_9 => ?_) (fun c_9 => ?_)
        · replace h := it_t h c_9
          obtain ⟨x2_10, ex2_10, h⟩ := pl_ok h
          refine lv_iinc (v := x2_10) (lv' := [(2, .int x2_10), (0, .ref q_t), (1, .int x1)]) hx hb dX4_hasLikeSums_36 hl (k := 2) rfl (by rw [ex2_10]; rfl) (by decide) rfl (fun ls hl => ?_)
          refine lv_goto (tgt := 8) hx hb dX4_hasLikeSums_39 (by decide) ?_
          obtain rfl := sm1 h
          exact ih x2_10 hk H locs ls hP hD hS (lv_sub hl [1, 2, 0] rfl)
        · replace h := it_f h c_9
          refine lv_iconst (v := 0) hx hb dX4_hasLikeSums_34 (by decide) ?_
          obtain rfl := sm1 h
          obtain rfl := sm1 hk
          exact KR (0 : Int32) rfl H locs ls 35 dX4_hasLikeSums_35 (Or.inl rfl) hP hD hS
set_option maxHeartbeats 4000000 in
set_option maxRecDepth 100000 in
theorem k_X4_hasLikeSums {p : Program} {l : Launch} {e : Env} {s : State} {m : MethodId} {args : Array Value} {below : List Frame} {meth : Method} {c : Code} {Q : State → Prop} {A0 : Nat → Prop} {H0 : Heap} (C : CallFix p m c cX4_hasLikeSums 3 s args wsX4_hasLikeSums RX4) (G : GT) (hK : gK G s) (hA : ∀ q : Nat, H0.size ≤ q → A0 q) (q_t q_t_cells : Nat) (t_size : Int32) (t_cells : Nat → Int32) (r : Int32) (h : f_X4_hasLikeSums t_size t_cells = some r) (KR : ∀ (H : Heap) (locs : List Loc) (ls : Array Slot) (pc : Nat), decode cX4_hasLikeSums pc = .ok (.ireturn, 1) → (r = 0 ∨ r = 1) → va_P G.1 vwCl [(q_t, .inr (3, [.ref q_t_cells, .int t_size])), (q_t_cells, .inl (G.2 0, 49, .inl t_cells))] H → va_D A0 [(q_t, .inr (3, [.ref q_t_cells, .int t_size])), (q_t_cells, .inl (G.2 0, 49, .inl t_cells))] → va_S A0 H0 H locs → W p l e ({ frames := 3, cells := 0, slots := 0, locals := 66 } : Room) s m args below meth c H locs 0 0 Q (F0 m pc ls [.int r])) : ∀ (H : Heap) (locs : List Loc) (ls : Array Slot), va_P G.1 vwCl [(q_t, .inr (3, [.ref q_t_cells, .int t_size])), (q_t_cells, .inl (G.2 0, 49, .inl t_cells))] H → va_D A0 [(q_t, .inr (3, [.ref q_t_cells, .int t_size])), (q_t_cells, .inl (G.2 0, 49, .inl t_cells))] → va_S A0 H0 H locs → lv_has ls 3 [(0, .ref q_t)] → W p l e ({ frames := 3, cells := 0, slots := 0, locals := 66 } : Room) s m args below meth c H locs 0 0 Q (F0 m 0 ls []) := by
  obtain ⟨hx, hb, hml, hown, hts⟩ := C
  intro H locs ls hP hD hS hl
  rw [f_X4_hasLikeSums] at h
  refine lv_aload_n hx hb dX4_hasLikeSums_0 rfl (lv_at hl 0 rfl) ?_
  refine lv_iconst (v := 0) hx hb dX4_hasLikeSums_1 (by decide) ?_
  obtain ⟨r_1, hf_2, h⟩ := bd_ok h
  refine ck_Vi (rest := []) (wn := [(q_t, .inr (3, [.ref q_t_cells, .int t_size])), (q_t_cells, .inl (G.2 0, 49, .inl t_cells))]) ⟨hx, hb, hml, hown, hts⟩ hK hP hD hS hA [0, 1] [] [0, 1] (c_X4_sumOfRow l G q_t q_t_cells _ t_size t_cells (0 : Int32) _ hf_2) (cwV 1 hts gX4_hasLikeSums_X4_sumOfRow rfl rfl rfl (by decide +kernel) ⟨Nat.le_of_ble_eq_true rfl, Nat.le_of_ble_eq_true rfl⟩) rfl rfl rfl rfl rfl rfl (by decide) rfl rfl rfl hl.1 rfl (Nat.le_of_ble_eq_true rfl) dX4_hasLikeSums_2 ⟨Nat.zero_le _, Nat.zero_le _⟩ (fun H locs hP hD hS => ?_)
  refine lv_istore_n (lv' := [(1, .int r_1), (0, .ref q_t)]) hx hb dX4_hasLikeSums_5 rfl hl (by decide) rfl (fun ls hl => ?_)
  refine lv_iconst (v := 0) hx hb dX4_hasLikeSums_6 (by decide) ?_
  refine lv_istore_n (lv' := [(2, .int (0 : Int32)), (1, .int r_1), (0, .ref q_t)]) hx hb dX4_hasLikeSums_7 rfl hl (by decide) rfl (fun ls hl => ?_)
  obtain ⟨z_11, hz_12, h⟩ := bd_ok h
  refine l_X4_hasLikeSums_1 ⟨hx, hb, hml, hown, hts⟩ G hK hA q_t q_t_cells r_1 t_size t_cells z_11 ?_ ?_ FU (0 : Int32) hz_12 H locs ls hP hD hS (lv_sub hl [2, 1, 0] rfl)
  · intro  hz H locs ls hP hD hS hl
    subst hz
    refine lv_iconst (v := 1) hx hb dX4_hasLikeSums_42 (by decide) ?_
    obtain rfl := sm1 h
    exact KR H locs ls 43 dX4_hasLikeSums_43 (Or.inr rfl) hP hD hS
  · intro r_13 hz H locs ls pc hd hbo hP hD hS
    subst hz
    obtain rfl := sm1 h
    exact KR H locs ls pc hd hbo hP hD hS
set_option maxHeartbeats 4000000 in
set_option maxRecDepth 100000 in
theorem c_X4_hasLikeSums (l : Launch) (G : GT) (q_t q_t_cells : Nat) (sz : Nat) (t_size : Int32) (t_cells : Nat → Int32) (r : Int32) (h : f_X4_hasLikeSums t_size t_cells = some r) : Met l yX4_hasLikeSums wsX4_hasLikeSums ({ frames := 3, cells := 0, slots := 0, locals := 66 } : Room) (va_Pc [.ref q_t] (pcW G [(q_t, .inr (3, [.ref q_t_cells, .int t_size])), (q_t_cells, .inl (G.2 0, 49, .inl t_cells))] sz)) (va_Qi (fun r9 (_ : Unit) => r9 = r) (fun _ t => atW G (va_A [(q_t, .inr (3, [.ref q_t_cells, .int t_size])), (q_t_cells, .inl (G.2 0, 49, .inl t_cells))] sz) [(q_t, .inr (3, [.ref q_t_cells, .int t_size])), (q_t_cells, .inl (G.2 0, 49, .inl t_cells))] t) (va_A [(q_t, .inr (3, [.ref q_t_cells, .int t_size])), (q_t_cells, .inl (G.2 0, 49, .inl t_cells))] sz)) 0 0 (va_A [(q_t, .inr (3, [.ref q_t_cells, .int t_size])), (q_t_cells, .inl (G.2 0, 49, .inl t_cells))] sz) := by
  refine Met.ofW (cc := cX4_hasLikeSums) (maxL := 3) (ret := (some .boolean)) (by decide) rfl ?_
  intro p e s m args below meth c s₁ B hml hv
  obtain ⟨rfl, hsz, hP, hK, hD0⟩ := hv
  subst hsz
  have hD := hD0.self (sz := s.heap.size)
  generalize hAe : va_A [(q_t, .inr (3, [.ref q_t_cells, .int t_size])), (q_t_cells, .inl (G.2 0, 49, .inl t_cells))] s.heap.size = A at hD ⊢
  have hA : ∀ q : Nat, s.heap.size ≤ q → A q := fun q h => by rw [← hAe]; exact Or.inr h
  have hl := lv_entry ([.ref q_t]) (n := 3) (Nat.le_of_ble_eq_true rfl)
  rw [lg_entry_eq]
  refine k_X4_hasLikeSums ⟨B.exec, B.bytes, hml, findClass_of_methodNamed B.named, atoms_spec (ws := wsX4_hasLikeSums) B.pre⟩ G hK hA q_t q_t_cells _ _ _ h ?_ _ _ _ hP hD va_S.rf hl
  intro H locs ls pc hd hbo hP hD hS
  exact W.zret B.exec B.bytes B.returns (by rcases hbo with e | e <;> subst e <;> rfl) (fun t ht hW => ⟨⟨r, (), rfl, rfl, by rw [ht]; exact hP, hD⟩, hS.F ht⟩) hS.2.2 hd B.notSynchronized
set_option maxRecDepth 20000 in
theorem wd_X4_hasDiagonal_1 : Cond.fieldLink RX4 15 "PermanentDesk$Matrix" "size" "I" ∈ wsX4_hasDiagonal := List.mem_of_getElem? (i := 1) (by decide +kernel)
set_option maxRecDepth 20000 in
theorem wi_X4_hasDiagonal_X4 : ∀ w ∈ u_ws RX4 TX4 2, w ∈ wsX4_hasDiagonal := by decide +kernel
def f_X4_hasDiagonal_L1 (t_size : Int32) : (Int32 × Int32 × Int32) → Option ((Int32 × Int32 × Int32) ⊕ (Int32 ⊕ Int32))
  | (x2, x3, x4) =>
    if x4 < 0 then
      some (.inr (.inl x3))
    else
      pl ((x3 - x3 / (10 : Int32) * (10 : Int32)) : Int32) (fun x5_4 =>
      (f_X4_has t_size x5_4).bind (fun r_5 =>
      if r_5 = 0 then
        some (.inr (.inr (0 : Int32)))
      else
        if (x2 &&& ((1 : Int32) <<< (x5_4 &&& 31))) = 0 then
          pl ((x2 ||| ((1 : Int32) <<< (x5_4 &&& 31))) : Int32) (fun x2_9 =>
          pl ((x3 / (10 : Int32)) : Int32) (fun x3_10 =>
          pl ((x4 + (-1 : Int32)) : Int32) (fun x4_11 =>
          some (.inl (x2_9, x3_10, x4_11)))))
        else
          some (.inr (.inr (0 : Int32)))))
def f_X4_hasDiagonal (t_size : Int32) (a1 : Int32) : Option Int32 :=
  if 0 ≤ a1 then
    pl ((t_size - (1 : Int32)) : Int32) (fun x4_2 =>
    (lpN (f_X4_hasDiagonal_L1 t_size) FU ((0 : Int32), a1, x4_2)).bind (fun z_13 => match z_13 with
    | .inl x3_12 =>
      if x3_12 = 0 then
        some (1 : Int32)
      else
        some (0 : Int32)
    | .inr r_16 => some r_16))
  else
    some (0 : Int32)
set_option maxHeartbeats 4000000 in
set_option maxRecDepth 100000 in
theorem l_X4_hasDiagonal_1 {p : Program} {l : Launch} {e : Env} {s : State} {m : MethodId} {args : Array Value} {below : List Frame} {meth : Method} {c : Code} {Q : State → Prop} {A0 : Nat → Prop} {H0 : Heap} (C : CallFix p m c cX4_hasDiagonal 6 s args wsX4_hasDiagonal RX4) (G : GT) (hK : gK G s) (hA : ∀ q : Nat, H0.size ≤ q → A0 q) (q_t q_t_cells : Nat) (t_size : Int32) (z : (Int32 ⊕ Int32)) (K : ∀ (E_x3 : Int32), z = .inl E_x3 → ∀ (H : Heap) (locs : List Loc) (ls : Array Slot), va_P G.1 vwCl [(q_t, .inr (3, [.ref q_t_cells, .int t_size]))] H → va_D A0 [(q_t, .inr (3, [.ref q_t_cells, .int t_size]))] → va_S A0 H0 H locs → lv_has ls 6 [(3, .int E_x3)] → W p l e ({ frames := 1, cells := 0, slots := 0, locals := 21 } : Room) s m args below meth c H locs 0 0 Q (F0 m 67 ls [])) (KR : ∀ (r : Int32), z = .inr r → ∀ (H : Heap) (locs : List Loc) (ls : Array Slot) (pc : Nat), decode cX4_hasDiagonal pc = .ok (.ireturn, 1) → (r = 0 ∨ r = 1) → va_P G.1 vwCl [(q_t, .inr (3, [.ref q_t_cells, .int t_size]))] H → va_D A0 [(q_t, .inr (3, [.ref q_t_cells, .int t_size]))] → va_S A0 H0 H locs → W p l e ({ frames := 1, cells := 0, slots := 0, locals := 21 } : Room) s m args below meth c H locs 0 0 Q (F0 m pc ls [.int r])) : ∀ (n : Nat) (x2 : Int32) (x3 : Int32) (x4 : Int32), lpN (f_X4_hasDiagonal_L1 t_size) n (x2, x3, x4) = some z → ∀ (H : Heap) (locs : List Loc) (ls : Array Slot), va_P G.1 vwCl [(q_t, .inr (3, [.ref q_t_cells, .int t_size]))] H → va_D A0 [(q_t, .inr (3, [.ref q_t_cells, .int t_size]))] → va_S A0 H0 H locs → lv_has ls 6 [(0, .ref q_t), (2, .int x2), (3, .int x3), (4, .int x4)] → W p l e ({ frames := 1, cells := 0, slots := 0, locals := 21 } : Room) s m args below meth c H locs 0 0 Q (F0 m 18 ls []) := by
  obtain ⟨hx, hb, hml, hown, hts⟩ := C
  intro n
  induction n with
  | zero => intro x2 x3 x4 h; exact absurd h (fun h => lp_0 h)
  | succ n ih =>
    intro x2 x3 x4 h H locs ls hP hD hS hl
    obtain ⟨y, h, hk⟩ := lp_s h
    rw [f_X4_hasDiagonal_L1] at h
    refine lv_iload hx hb dX4_hasDiagonal_18 (lv_at hl 3 rfl) ?_
    refine lv_if_lt (tgt := 67) hx hb dX4_hasDiagonal_20 (by decide) (fun c_3 => ?_) (fun c_3 => ?_)
    · replace h := it_t h c_3
      obtain rfl := sm1 h
      obtain rfl := sm1 hk
      exact K x3 rfl H locs ls hP hD hS (lv_sub hl [2] rfl)
    · replace h := it_f h c_3
      refine lv_iload_n hx hb dX4_hasDiagonal_23 rfl (lv_at hl 2 rfl) ?_
      refine lv_bipush (v := 10) hx hb dX4_hasDiagonal_24 (by decide) ?_
      refine lv_irem hx hb dX4_hasDiagonal_26 (by decide) ?_
      refine lv_topi (fun x5_4 ex5_4 => ?_)
      replace h := pl_v h ex5_4
      refine lv_istore (lv' := [(5, .int x5_4), (0, .ref q_t), (2, .int x2), (3, .int x3), (4, .int x4)]) hx hb dX4_hasDiagonal_27 hl (by decide) rfl (fun ls hl => ?_)
      refine lv_aload_n hx hb dX4_hasDiagonal_29 rfl (lv_at hl 1 rfl) ?_
      refine lv_iload hx hb dX4_hasDiagonal_30 (lv_at hl 0 rfl) ?_
      obtain ⟨r_5, hf_6, h⟩ := bd_ok h
      refine ck_Vi (rest := []) (wn := [(q_t, .inr (3, [.ref q_t_cells, .int t_size]))]) ⟨hx, hb, hml, hown, hts⟩ hK hP hD hS hA [0] [] [0] (c_X4_has l G q_t q_t_cells _ t_size x5_4 _ hf_6) (cwV 1 hts gX4_hasDiagonal_X4_has rfl rfl rfl (by decide +kernel) ⟨Nat.le_of_ble_eq_true rfl, Nat.le_of_ble_eq_true rfl⟩) rfl rfl rfl rfl rfl rfl (by decide) rfl rfl rfl hl.1 rfl (Nat.le_of_ble_eq_true rfl) dX4_hasDiagonal_32 ⟨Nat.zero_le _, Nat.zero_le _⟩ (fun H locs hP hD hS => ?_)
      refine lv_if_eq (tgt := 47) hx hb dX4_hasDiagonal_35 (by decide) (fun c_7 => ?_) (fun c_7 => ?_)
      · replace h := it_t h c_7
        refine lv_iconst (v := 0) hx hb dX4_hasDiagonal_47 (by decide) ?_
        obtain rfl := sm1 h
        obtain rfl := sm1 hk
        exact KR (0 : Int32) rfl H locs ls 48 dX4_hasDiagonal_48 (Or.inl rfl) hP hD hS
      · replace h := it_f h c_7
        refine lv_iload_n hx hb dX4_hasDiagonal_38 rfl (lv_at hl 2 rfl) ?_
        refine lv_iconst (v := 1) hx hb dX4_hasDiagonal_39 (by decide) ?_
        refine lv_iload hx hb dX4_hasDiagonal_40 (lv_at hl 0 rfl) ?_
        refine lv_ishl hx hb dX4_hasDiagonal_42 ?_
        refine lv_iand hx hb dX4_hasDiagonal_43 ?_
        refine lv_if_eq (tgt := 49) hx hb dX4_hasDiagonal_44 (by decide) (fun c_8 => ?_) (fun c_8 => ?_)
        · replace h := it_t h c_8
          refine lv_iload_n hx hb dX4_hasDiagonal_49 rfl (lv_at hl 2 rfl) ?_
          refine lv_iconst (v := 1) hx hb dX4_hasDiagonal_50 (by decide) ?_
          refine lv_iload hx hb dX4_hasDiagonal_51 (lv_at hl 0 rfl) ?_
          refine lv_ishl hx hb dX4_hasDiagonal_53 ?_
          refine lv_ior hx hb dX4_hasDiagonal_54 ?_
          refine lv_topi (fun x2_9 ex2_9 => ?_)
          replace h := pl_v h ex2_9
          refine lv_istore_n (lv' := [(2, .int x2_9), (5, .int x5_4), (0, .ref q_t), (3, .int x3), (4, .int x4)]) hx hb dX4_hasDiagonal_55 rfl hl (by decide) rfl (fun ls hl => ?_)
          refine lv_iload_n hx hb dX4_hasDiagonal_56 rfl (lv_at hl 3 rfl) ?_
          refine lv_bipush (v := 10) hx hb dX4_hasDiagonal_57 (by decide) ?_
          refine lv_idiv hx hb dX4_hasDiagonal_59 (by decide) ?_
          refine lv_topi (fun x3_10 ex3_10 => ?_)
          replace h := pl_v h ex3_10
          refine lv_istore_n (lv' := [(3, .int x3_10), (2, .int x2_9), (5, .int x5_4), (0, .ref q_t), (4, .int x4)]) hx hb dX4_hasDiagonal_60 rfl hl (by decide) rfl (fun ls hl => ?_)
          obtain ⟨x4_11, ex4_11, h⟩ := pl_ok h
          refine lv_iinc (v := x4_11) (lv' := [(4, .int x4_11), (3, .int x3_10), (2, .int x2_9), (5, .int x5_4), (0, .ref q_t)]) hx hb dX4_hasDiagonal_61 hl (k := 4) rfl (by rw [ex4_11]; rfl) (by decide) rfl (fun ls hl => ?_)
          refine lv_goto (tgt := 18) hx hb dX4_hasDiagonal_64 (by decide) ?_
          obtain rfl := sm1 h
          exact ih x2_9 x3_10 x4_11 hk H locs ls hP hD hS (lv_sub hl [4, 2, 1, 0] rfl)
        · replace h := it_f h c_8
          refine lv_iconst (v := 0) hx hb dX4_hasDiagonal_47 (by decide) ?_
          obtain rfl := sm1 h
          obtain rfl := sm1 hk
          exact KR (0 : Int32) rfl H locs ls 48 dX4_hasDiagonal_48 (Or.inl rfl) hP hD hS
set_option maxHeartbeats 4000000 in
set_option maxRecDepth 100000 in
theorem k_X4_hasDiagonal {p : Program} {l : Launch} {e : Env} {s : State} {m : MethodId} {args : Array Value} {below : List Frame} {meth : Method} {c : Code} {Q : State → Prop} {A0 : Nat → Prop} {H0 : Heap} (C : CallFix p m c cX4_hasDiagonal 6 s args wsX4_hasDiagonal RX4) (G : GT) (hK : gK G s) (hA : ∀ q : Nat, H0.size ≤ q → A0 q) (q_t q_t_cells : Nat) (t_size : Int32) (a1 : Int32) (r : Int32) (h : f_X4_hasDiagonal t_size a1 = some r) (KR : ∀ (H : Heap) (locs : List Loc) (ls : Array Slot) (pc : Nat), decode cX4_hasDiagonal pc = .ok (.ireturn, 1) → (r = 0 ∨ r = 1) → va_P G.1 vwCl [(q_t, .inr (3, [.ref q_t_cells, .int t_size]))] H → va_D A0 [(q_t, .inr (3, [.ref q_t_cells, .int t_size]))] → va_S A0 H0 H locs → W p l e ({ frames := 1, cells := 0, slots := 0, locals := 21 } : Room) s m args below meth c H locs 0 0 Q (F0 m pc ls [.int r])) : ∀ (H : Heap) (locs : List Loc) (ls : Array Slot), va_P G.1 vwCl [(q_t, .inr (3, [.ref q_t_cells, .int t_size]))] H → va_D A0 [(q_t, .inr (3, [.ref q_t_cells, .int t_size]))] → va_S A0 H0 H locs → lv_has ls 6 [(0, .ref q_t), (1, .int a1)] → W p l e ({ frames := 1, cells := 0, slots := 0, locals := 21 } : Room) s m args below meth c H locs 0 0 Q (F0 m 0 ls []) := by
  obtain ⟨hx, hb, hml, hown, hts⟩ := C
  intro H locs ls hP hD hS hl
  rw [f_X4_hasDiagonal] at h
  refine lv_iload_n hx hb dX4_hasDiagonal_0 rfl (lv_at hl 1 rfl) ?_
  refine lv_if_ge (tgt := 6) hx hb dX4_hasDiagonal_1 (by decide) (fun c_1 => ?_) (fun c_1 => ?_)
  · replace h := it_t h c_1
    refine lv_iconst (v := 0) hx hb dX4_hasDiagonal_6 (by decide) ?_
    refine lv_istore_n (lv' := [(2, .int (0 : Int32)), (0, .ref q_t), (1, .int a1)]) hx hb dX4_hasDiagonal_7 rfl hl (by decide) rfl (fun ls hl => ?_)
    refine lv_iload_n hx hb dX4_hasDiagonal_8 rfl (lv_at hl 2 rfl) ?_
    refine lv_istore_n (lv' := [(3, .int a1), (2, .int (0 : Int32)), (0, .ref q_t), (1, .int a1)]) hx hb dX4_hasDiagonal_9 rfl hl (by decide) rfl (fun ls hl => ?_)
    refine lv_aload_n hx hb dX4_hasDiagonal_10 rfl (lv_at hl 2 rfl) ?_
    refine va_get (D := G.1) (ci := 3) (v := .int t_size) (C := RX4) (T := TX4) (N := 2) hx hb hts wi_X4_hasDiagonal_X4 hown hK hP 0 rfl rfl 1 (by decide) (hts _ wd_X4_hasDiagonal_1) (fun _ h9 => h9) rfl dX4_hasDiagonal_11 ?_
    refine lv_iconst (v := 1) hx hb dX4_hasDiagonal_14 (by decide) ?_
    refine lv_isub hx hb dX4_hasDiagonal_15 ?_
    refine lv_topi (fun x4_2 ex4_2 => ?_)
    replace h := pl_v h ex4_2
    refine lv_istore (lv' := [(4, .int x4_2), (3, .int a1), (2, .int (0 : Int32)), (0, .ref q_t), (1, .int a1)]) hx hb dX4_hasDiagonal_16 hl (by decide) rfl (fun ls hl => ?_)
    obtain ⟨z_13, hz_14, h⟩ := bd_ok h
    refine l_X4_hasDiagonal_1 ⟨hx, hb, hml, hown, hts⟩ G hK hA q_t q_t_cells t_size z_13 ?_ ?_ FU (0 : Int32) a1 x4_2 hz_14 H locs ls hP hD hS (lv_sub hl [3, 2, 1, 0] rfl)
    · intro x3_12 hz H locs ls hP hD hS hl
      subst hz
      refine lv_iload_n hx hb dX4_hasDiagonal_67 rfl (lv_at hl 0 rfl) ?_
      refine lv_if_ne (tgt := 75) hx hb dX4_hasDiagonal_68 (by decide) (fun c_15 => ?_) (fun c_15 => ?_)
      · replace h := it_f h c_15
        refine lv_iconst (v := 0) hx hb dX4_hasDiagonal_75 (by decide) ?_
        obtain rfl := sm1 h
        exact KR H locs ls 76 dX4_hasDiagonal_76 (Or.inl rfl) hP hD hS
      · replace h := it_t h c_15
        refine lv_iconst (v := 1) hx hb dX4_hasDiagonal_71 (by decide) ?_
        refine lv_goto (tgt := 76) hx hb dX4_hasDiagonal_72 (by decide) ?_
        obtain rfl := sm1 h
        exact KR H locs ls 76 dX4_hasDiagonal_76 (Or.inr rfl) hP hD hS
    · intro r_16 hz H locs ls pc hd hbo hP hD hS
      subst hz
      obtain rfl := sm1 h
      exact KR H locs ls pc hd hbo hP hD hS
  · replace h := it_f h c_1
    refine lv_iconst (v := 0) hx hb dX4_hasDiagonal_4 (by decide) ?_
    obtain rfl := sm1 h
    exact KR H locs ls 5 dX4_hasDiagonal_5 (Or.inl rfl) hP hD hS
set_option maxHeartbeats 4000000 in
set_option maxRecDepth 100000 in
theorem c_X4_hasDiagonal (l : Launch) (G : GT) (q_t q_t_cells : Nat) (sz : Nat) (t_size : Int32) (a1 : Int32) (r : Int32) (h : f_X4_hasDiagonal t_size a1 = some r) : Met l yX4_hasDiagonal wsX4_hasDiagonal ({ frames := 1, cells := 0, slots := 0, locals := 21 } : Room) (va_Pc [.ref q_t, .int a1] (pcW G [(q_t, .inr (3, [.ref q_t_cells, .int t_size]))] sz)) (va_Qi (fun r9 (_ : Unit) => r9 = r) (fun _ t => atW G (va_A [(q_t, .inr (3, [.ref q_t_cells, .int t_size]))] sz) [(q_t, .inr (3, [.ref q_t_cells, .int t_size]))] t) (va_A [(q_t, .inr (3, [.ref q_t_cells, .int t_size]))] sz)) 0 0 (va_A [(q_t, .inr (3, [.ref q_t_cells, .int t_size]))] sz) := by
  refine Met.ofW (cc := cX4_hasDiagonal) (maxL := 6) (ret := (some .boolean)) (by decide) rfl ?_
  intro p e s m args below meth c s₁ B hml hv
  obtain ⟨rfl, hsz, hP, hK, hD0⟩ := hv
  subst hsz
  have hD := hD0.self (sz := s.heap.size)
  generalize hAe : va_A [(q_t, .inr (3, [.ref q_t_cells, .int t_size]))] s.heap.size = A at hD ⊢
  have hA : ∀ q : Nat, s.heap.size ≤ q → A q := fun q h => by rw [← hAe]; exact Or.inr h
  have hl := lv_entry ([.ref q_t, .int a1]) (n := 6) (Nat.le_of_ble_eq_true rfl)
  rw [lg_entry_eq]
  refine k_X4_hasDiagonal ⟨B.exec, B.bytes, hml, findClass_of_methodNamed B.named, atoms_spec (ws := wsX4_hasDiagonal) B.pre⟩ G hK hA q_t q_t_cells _ _ _ h ?_ _ _ _ hP hD va_S.rf hl
  intro H locs ls pc hd hbo hP hD hS
  exact W.zret B.exec B.bytes B.returns (by rcases hbo with e | e <;> subst e <;> rfl) (fun t ht hW => ⟨⟨r, (), rfl, rfl, by rw [ht]; exact hP, hD⟩, hS.F ht⟩) hS.2.2 hd B.notSynchronized
set_option maxRecDepth 20000 in
theorem wd_X4_greatestOn_1 : Cond.fieldLink RX4 15 "PermanentDesk$Matrix" "size" "I" ∈ wsX4_greatestOn := List.mem_of_getElem? (i := 1) (by decide +kernel)
set_option maxRecDepth 20000 in
theorem wi_X4_greatestOn_X4 : ∀ w ∈ u_ws RX4 TX4 2, w ∈ wsX4_greatestOn := by decide +kernel
set_option maxRecDepth 20000 in
theorem wd_X4_greatestOn_2 : Cond.methodLink RX4 56 Lib.Math.max.name ∈ wsX4_greatestOn := List.mem_of_getElem? (i := 2) (by decide +kernel)
set_option maxRecDepth 20000 in
theorem wd_X4_greatestOn_3 : Cond.static Lib.Math.max.name ∈ wsX4_greatestOn := List.mem_of_getElem? (i := 3) (by decide +kernel)
set_option maxRecDepth 20000 in
theorem wd_X4_greatestOn_4 : Cond.initialized "java/lang/Math" ∈ wsX4_greatestOn := List.mem_of_getElem? (i := 4) (by decide +kernel)
set_option maxRecDepth 20000 in
theorem wd_X4_greatestOn_5 : Cond.code Lib.Math.max.name Lib.Math.max.code 2 (some .int) ∈ wsX4_greatestOn := List.mem_of_getElem? (i := 5) (by decide +kernel)
def f_X4_greatestOn_L1 (t_size : Int32) (t_cells : Nat → Int32) : (Int32 × Int32 × Int32) → Option ((Int32 × Int32 × Int32) ⊕ Int32)
  | (x2, x3, x4) =>
    if x4 < 0 then
      some (.inr x2)
    else
      (f_X4_at t_size t_cells x4 (x3 - x3 / (10 : Int32) * (10 : Int32))).bind (fun r_3 =>
      pl ((if x2 < r_3 then r_3 else x2) : Int32) (fun x2_5 =>
      pl ((x3 / (10 : Int32)) : Int32) (fun x3_6 =>
      pl ((x4 + (-1 : Int32)) : Int32) (fun x4_7 =>
      some (.inl (x2_5, x3_6, x4_7))))))
def f_X4_greatestOn (t_size : Int32) (t_cells : Nat → Int32) (a1 : Int32) : Option Int32 :=
  pl ((t_size - (1 : Int32)) : Int32) (fun x4_1 =>
  (lpN (f_X4_greatestOn_L1 t_size t_cells) FU ((-20 : Int32), a1, x4_1)).bind (fun x2_8 =>
  some x2_8))
set_option maxHeartbeats 4000000 in
set_option maxRecDepth 100000 in
theorem l_X4_greatestOn_1 {p : Program} {l : Launch} {e : Env} {s : State} {m : MethodId} {args : Array Value} {below : List Frame} {meth : Method} {c : Code} {Q : State → Prop} {A0 : Nat → Prop} {H0 : Heap} (C : CallFix p m c cX4_greatestOn 5 s args wsX4_greatestOn RX4) (G : GT) (hK : gK G s) (hA : ∀ q : Nat, H0.size ≤ q → A0 q) (q_t q_t_cells : Nat) (t_size : Int32) (t_cells : Nat → Int32) (E_x2 : Int32) (K : ∀ (H : Heap) (locs : List Loc) (ls : Array Slot), va_P G.1 vwCl [(q_t, .inr (3, [.ref q_t_cells, .int t_size])), (q_t_cells, .inl (G.2 0, 49, .inl t_cells))] H → va_D A0 [(q_t, .inr (3, [.ref q_t_cells, .int t_size])), (q_t_cells, .inl (G.2 0, 49, .inl t_cells))] → va_S A0 H0 H locs → lv_has ls 5 [(2, .int E_x2)] → W p l e ({ frames := 2, cells := 0, slots := 0, locals := 60 } : Room) s m args below meth c H locs 0 0 Q (F0 m 44 ls [])) : ∀ (n : Nat) (x2 : Int32) (x3 : Int32) (x4 : Int32), lpN (f_X4_greatestOn_L1 t_size t_cells) n (x2, x3, x4) = some E_x2 → ∀ (H : Heap) (locs : List Loc) (ls : Array Slot), va_P G.1 vwCl [(q_t, .inr (3, [.ref q_t_cells, .int t_size])), (q_t_cells, .inl (G.2 0, 49, .inl t_cells))] H → va_D A0 [(q_t, .inr (3, [.ref q_t_cells, .int t_size])), (q_t_cells, .inl (G.2 0, 49, .inl t_cells))] → va_S A0 H0 H locs → lv_has ls 5 [(0, .ref q_t), (2, .int x2), (3, .int x3), (4, .int x4)] → W p l e ({ frames := 2, cells := 0, slots := 0, locals := 60 } : Room) s m args below meth c H locs 0 0 Q (F0 m 13 ls []) := by
  obtain ⟨hx, hb, hml, hown, hts⟩ := C
  intro n
  induction n with
  | zero => intro x2 x3 x4 h; exact absurd h (fun h => lp_0 h)
  | succ n ih =>
    intro x2 x3 x4 h H locs ls hP hD hS hl
    obtain ⟨y, h, hk⟩ := lp_s h
    rw [f_X4_greatestOn_L1] at h
    refine lv_iload hx hb dX4_greatestOn_13 (lv_at hl 3 rfl) ?_
    refine lv_if_lt (tgt := 44) hx hb dX4_greatestOn_15 (by decide) (fun c_2 => ?_) (fun c_2 => ?_)
    · replace h := it_t h c_2
      obtain rfl := sm1 h
      obtain rfl := sm1 hk
      exact K H locs ls hP hD hS (lv_sub hl [1] rfl)
    · replace h := it_f h c_2
      refine lv_iload_n hx hb dX4_greatestOn_18 rfl (lv_at hl 1 rfl) ?_
      refine lv_aload_n hx hb dX4_greatestOn_19 rfl (lv_at hl 0 rfl) ?_
      refine lv_iload hx hb dX4_greatestOn_20 (lv_at hl 3 rfl) ?_
      refine lv_iload_n hx hb dX4_greatestOn_22 rfl (lv_at hl 2 rfl) ?_
      refine lv_bipush (v := 10) hx hb dX4_greatestOn_23 (by decide) ?_
      refine lv_irem hx hb dX4_greatestOn_25 (by decide) ?_
      obtain ⟨r_3, hf_4, h⟩ := bd_ok h
      refine ck_Vi (rest := [.int x2]) (wn := [(q_t, .inr (3, [.ref q_t_cells, .int t_size])), (q_t_cells, .inl (G.2 0, 49, .inl t_cells))]) ⟨hx, hb, hml, hown, hts⟩ hK hP hD hS hA [0, 1] [] [0, 1] (c_X4_at l G q_t q_t_cells _ t_size t_cells x4 (x3 - x3 / (10 : Int32) * (10 : Int32)) _ hf_4) (cwV 2 hts gX4_greatestOn_X4_at rfl rfl rfl (by decide +kernel) ⟨Nat.le_of_ble_eq_true rfl, Nat.le_of_ble_eq_true rfl⟩) rfl rfl rfl rfl rfl rfl (by decide) rfl rfl rfl hl.1 rfl (Nat.le_of_ble_eq_true rfl) dX4_greatestOn_26 ⟨Nat.zero_le _, Nat.zero_le _⟩ (fun H locs hP hD hS => ?_)
      refine va_mmax hx hb (hml.trans hl.1.symm) hown (hts _ wd_X4_greatestOn_2) (hts _ wd_X4_greatestOn_3) (hts _ wd_X4_greatestOn_4) (hts _ wd_X4_greatestOn_5) (Nat.le_of_ble_eq_true rfl) (Nat.le_of_ble_eq_true rfl) (Nat.zero_le _) (Nat.zero_le _) dX4_greatestOn_29 ?_
      refine lv_topi (fun x2_5 ex2_5 => ?_)
      replace h := pl_v h ex2_5
      refine lv_istore_n (lv' := [(2, .int x2_5), (0, .ref q_t), (3, .int x3), (4, .int x4)]) hx hb dX4_greatestOn_32 rfl hl (by decide) rfl (fun ls hl => ?_)
      refine lv_iload_n hx hb dX4_greatestOn_33 rfl (lv_at hl 2 rfl) ?_
      refine lv_bipush (v := 10) hx hb dX4_greatestOn_34 (by decide) ?_
      refine lv_idiv hx hb dX4_greatestOn_36 (by decide) ?_
      refine lv_topi (fun x3_6 ex3_6 => ?_)
      replace h := pl_v h ex3_6
      refine lv_istore_n (lv' := [(3, .int x3_6), (2, .int x2_5), (0, .ref q_t), (4, .int x4)]) hx hb dX4_greatestOn_37 rfl hl (by decide) rfl (fun ls hl => ?_)
      obtain ⟨x4_7, ex4_7, h⟩ := pl_ok h
      refine lv_iinc (v := x4_7) (lv' := [(4, .int x4_7), (3, .int x3_6), (2, .int x2_5), (0, .ref q_t)]) hx hb dX4_greatestOn_38 hl (k := 3) rfl (by rw [ex4_7]; rfl) (by decide) rfl (fun ls hl => ?_)
      refine lv_goto (tgt := 13) hx hb dX4_greatestOn_41 (by decide) ?_
      obtain rfl := sm1 h
      exact ih x2_5 x3_6 x4_7 hk H locs ls hP hD hS (lv_sub hl [3, 2, 1, 0] rfl)
set_option maxHeartbeats 4000000 in
set_option maxRecDepth 100000 in
theorem k_X4_greatestOn {p : Program} {l : Launch} {e : Env} {s : State} {m : MethodId} {args : Array Value} {below : List Frame} {meth : Method} {c : Code} {Q : State → Prop} {A0 : Nat → Prop} {H0 : Heap} (C : CallFix p m c cX4_greatestOn 5 s args wsX4_greatestOn RX4) (G : GT) (hK : gK G s) (hA : ∀ q : Nat, H0.size ≤ q → A0 q) (q_t q_t_cells : Nat) (t_size : Int32) (t_cells : Nat → Int32) (a1 : Int32) (r : Int32) (h : f_X4_greatestOn t_size t_cells a1 = some r) (KR : ∀ (H : Heap) (locs : List Loc) (ls : Array Slot) (pc : Nat), decode cX4_greatestOn pc = .ok (.ireturn, 1) → va_P G.1 vwCl [(q_t, .inr (3, [.ref q_t_cells, .int t_size])), (q_t_cells, .inl (G.2 0, 49, .inl t_cells))] H → va_D A0 [(q_t, .inr (3, [.ref q_t_cells, .int t_size])), (q_t_cells, .inl (G.2 0, 49, .inl t_cells))] → va_S A0 H0 H locs → W p l e ({ frames := 2, cells := 0, slots := 0, locals := 60 } : Room) s m args below meth c H locs 0 0 Q (F0 m pc ls [.int r])) : ∀ (H : Heap) (locs : List Loc) (ls : Array Slot), va_P G.1 vwCl [(q_t, .inr (3, [.ref q_t_cells, .int t_size])), (q_t_cells, .inl (G.2 0, 49, .inl t_cells))] H → va_D A0 [(q_t, .inr (3, [.ref q_t_cells, .int t_size])), (q_t_cells, .inl (G.2 0, 49, .inl t_cells))] → va_S A0 H0 H locs → lv_has ls 5 [(0, .ref q_t), (1, .int a1)] → W p l e ({ frames := 2, cells := 0, slots := 0, locals := 60 } : Room) s m args below meth c H locs 0 0 Q (F0 m 0 ls []) := by
  obtain ⟨hx, hb, hml, hown, hts⟩ := C
  intro H locs ls hP hD hS hl
  rw [f_X4_greatestOn] at h
  refine lv_bipush (v := -20) hx hb dX4_greatestOn_0 (by decide) ?_
  refine lv_istore_n (lv' := [(2, .int (-20 : Int32)), (0, .ref q_t), (1, .int a1)]) hx hb dX4_greatestOn_2 rfl hl (by decide) rfl (fun ls hl => ?_)
  refine lv_iload_n hx hb dX4_greatestOn_3 rfl (lv_at hl 2 rfl) ?_
  refine lv_istore_n (lv' := [(3, .int a1), (2, .int (-20 : Int32)), (0, .ref q_t), (1, .int a1)]) hx hb dX4_greatestOn_4 rfl hl (by decide) rfl (fun ls hl => ?_)
  refine lv_aload_n hx hb dX4_greatestOn_5 rfl (lv_at hl 2 rfl) ?_
  refine va_get (D := G.1) (ci := 3) (v := .int t_size) (C := RX4) (T := TX4) (N := 2) hx hb hts wi_X4_greatestOn_X4 hown hK hP 0 rfl rfl 1 (by decide) (hts _ wd_X4_greatestOn_1) (fun _ h9 => h9) rfl dX4_greatestOn_6 ?_
  refine lv_iconst (v := 1) hx hb dX4_greatestOn_9 (by decide) ?_
  refine lv_isub hx hb dX4_greatestOn_10 ?_
  refine lv_topi (fun x4_1 ex4_1 => ?_)
  replace h := pl_v h ex4_1
  refine lv_istore (lv' := [(4, .int x4_1), (3, .int a1), (2, .int (-20 : Int32)), (0, .ref q_t), (1, .int a1)]) hx hb dX4_greatestOn_11 hl (by decide) rfl (fun ls hl => ?_)
  obtain ⟨x2_8, hz_10, h⟩ := bd_ok h
  refine l_X4_greatestOn_1 ⟨hx, hb, hml, hown, hts⟩ G hK hA q_t q_t_cells t_size t_cells x2_8 ?_ FU (-20 : Int32) a1 x4_1 hz_10 H locs ls hP hD hS (lv_sub hl [3, 2, 1, 0] rfl)
  intro H locs ls hP hD hS hl
  refine lv_iload_n hx hb dX4_greatestOn_44 rfl (lv_at hl 0 rfl) ?_
  obtain rfl := sm1 h
  exact KR H locs ls 45 dX4_greatestOn_45 hP hD hS
set_option maxHeartbeats 4000000 in
set_option maxRecDepth 100000 in
theorem c_X4_greatestOn (l : Launch) (G : GT) (q_t q_t_cells : Nat) (sz : Nat) (t_size : Int32) (t_cells : Nat → Int32) (a1 : Int32) (r : Int32) (h : f_X4_greatestOn t_size t_cells a1 = some r) : Met l yX4_greatestOn wsX4_greatestOn ({ frames := 2, cells := 0, slots := 0, locals := 60 } : Room) (va_Pc [.ref q_t, .int a1] (pcW G [(q_t, .inr (3, [.ref q_t_cells, .int t_size])), (q_t_cells, .inl (G.2 0, 49, .inl t_cells))] sz)) (va_Qi (fun r9 (_ : Unit) => r9 = r) (fun _ t => atW G (va_A [(q_t, .inr (3, [.ref q_t_cells, .int t_size])), (q_t_cells, .inl (G.2 0, 49, .inl t_cells))] sz) [(q_t, .inr (3, [.ref q_t_cells, .int t_size])), (q_t_cells, .inl (G.2 0, 49, .inl t_cells))] t) (va_A [(q_t, .inr (3, [.ref q_t_cells, .int t_size])), (q_t_cells, .inl (G.2 0, 49, .inl t_cells))] sz)) 0 0 (va_A [(q_t, .inr (3, [.ref q_t_cells, .int t_size])), (q_t_cells, .inl (G.2 0, 49, .inl t_cells))] sz) := by
  refine Met.ofW (cc := cX4_greatestOn) (maxL := 5) (ret := (some .int)) (by decide) rfl ?_
  intro p e s m args below meth c s₁ B hml hv
  obtain ⟨rfl, hsz, hP, hK, hD0⟩ := hv
  subst hsz
  have hD := hD0.self (sz := s.heap.size)
  generalize hAe : va_A [(q_t, .inr (3, [.ref q_t_cells, .int t_size])), (q_t_cells, .inl (G.2 0, 49, .inl t_cells))] s.heap.size = A at hD ⊢
  have hA : ∀ q : Nat, s.heap.size ≤ q → A q := fun q h => by rw [← hAe]; exact Or.inr h
  have hl := lv_entry ([.ref q_t, .int a1]) (n := 5) (Nat.le_of_ble_eq_true rfl)
  rw [lg_entry_eq]
  refine k_X4_greatestOn ⟨B.exec, B.bytes, hml, findClass_of_methodNamed B.named, atoms_spec (ws := wsX4_greatestOn) B.pre⟩ G hK hA q_t q_t_cells _ _ _ _ h ?_ _ _ _ hP hD va_S.rf hl
  intro H locs ls pc hd hP hD hS
  exact W.iret B.exec B.bytes B.returns (fun t ht hW => ⟨⟨r, (), rfl, rfl, by rw [ht]; exact hP, hD⟩, hS.F ht⟩) hS.2.2 hd B.notSynchronized
set_option maxRecDepth 20000 in
theorem wd_X4_sumOn_1 : Cond.fieldLink RX4 15 "PermanentDesk$Matrix" "size" "I" ∈ wsX4_sumOn := List.mem_of_getElem? (i := 1) (by decide +kernel)
set_option maxRecDepth 20000 in
theorem wi_X4_sumOn_X4 : ∀ w ∈ u_ws RX4 TX4 2, w ∈ wsX4_sumOn := by decide +kernel
def f_X4_sumOn_L1 (t_size : Int32) (t_cells : Nat → Int32) : (Int32 × Int32 × Int32) → Option ((Int32 × Int32 × Int32) ⊕ Int32)
  | (x2, x3, x4) =>
    if x4 < 0 then
      some (.inr x2)
    else
      (f_X4_at t_size t_cells x4 (x3 - x3 / (10 : Int32) * (10 : Int32))).bind (fun r_3 =>
      pl ((x2 + r_3) : Int32) (fun x2_5 =>
      pl ((x3 / (10 : Int32)) : Int32) (fun x3_6 =>
      pl ((x4 + (-1 : Int32)) : Int32) (fun x4_7 =>
      some (.inl (x2_5, x3_6, x4_7))))))
def f_X4_sumOn (t_size : Int32) (t_cells : Nat → Int32) (a1 : Int32) : Option Int32 :=
  pl ((t_size - (1 : Int32)) : Int32) (fun x4_1 =>
  (lpN (f_X4_sumOn_L1 t_size t_cells) FU ((0 : Int32), a1, x4_1)).bind (fun x2_8 =>
  some x2_8))
set_option maxHeartbeats 4000000 in
set_option maxRecDepth 100000 in
theorem l_X4_sumOn_1 {p : Program} {l : Launch} {e : Env} {s : State} {m : MethodId} {args : Array Value} {below : List Frame} {meth : Method} {c : Code} {Q : State → Prop} {A0 : Nat → Prop} {H0 : Heap} (C : CallFix p m c cX4_sumOn 5 s args wsX4_sumOn RX4) (G : GT) (hK : gK G s) (hA : ∀ q : Nat, H0.size ≤ q → A0 q) (q_t q_t_cells : Nat) (t_size : Int32) (t_cells : Nat → Int32) (E_x2 : Int32) (K : ∀ (H : Heap) (locs : List Loc) (ls : Array Slot), va_P G.1 vwCl [(q_t, .inr (3, [.ref q_t_cells, .int t_size])), (q_t_cells, .inl (G.2 0, 49, .inl t_cells))] H → va_D A0 [(q_t, .inr (3, [.ref q_t_cells, .int t_size])), (q_t_cells, .inl (G.2 0, 49, .inl t_cells))] → va_S A0 H0 H locs → lv_has ls 5 [(2, .int E_x2)] → W p l e ({ frames := 2, cells := 0, slots := 0, locals := 43 } : Room) s m args below meth c H locs 0 0 Q (F0 m 41 ls [])) : ∀ (n : Nat) (x2 : Int32) (x3 : Int32) (x4 : Int32), lpN (f_X4_sumOn_L1 t_size t_cells) n (x2, x3, x4) = some E_x2 → ∀ (H : Heap) (locs : List Loc) (ls : Array Slot), va_P G.1 vwCl [(q_t, .inr (3, [.ref q_t_cells, .int t_size])), (q_t_cells, .inl (G.2 0, 49, .inl t_cells))] H → va_D A0 [(q_t, .inr (3, [.ref q_t_cells, .int t_size])), (q_t_cells, .inl (G.2 0, 49, .inl t_cells))] → va_S A0 H0 H locs → lv_has ls 5 [(0, .ref q_t), (2, .int x2), (3, .int x3), (4, .int x4)] → W p l e ({ frames := 2, cells := 0, slots := 0, locals := 43 } : Room) s m args below meth c H locs 0 0 Q (F0 m 12 ls []) := by
  obtain ⟨hx, hb, hml, hown, hts⟩ := C
  intro n
  induction n with
  | zero => intro x2 x3 x4 h; exact absurd h (fun h => lp_0 h)
  | succ n ih =>
    intro x2 x3 x4 h H locs ls hP hD hS hl
    obtain ⟨y, h, hk⟩ := lp_s h
    rw [f_X4_sumOn_L1] at h
    refine lv_iload hx hb dX4_sumOn_12 (lv_at hl 3 rfl) ?_
    refine lv_if_lt (tgt := 41) hx hb dX4_sumOn_14 (by decide) (fun c_2 => ?_) (fun c_2 => ?_)
    · replace h := it_t h c_2
      obtain rfl := sm1 h
      obtain rfl := sm1 hk
      exact K H locs ls hP hD hS (lv_sub hl [1] rfl)
    · replace h := it_f h c_2
      refine lv_iload_n hx hb dX4_sumOn_17 rfl (lv_at hl 1 rfl) ?_
      refine lv_aload_n hx hb dX4_sumOn_18 rfl (lv_at hl 0 rfl) ?_
      refine lv_iload hx hb dX4_sumOn_19 (lv_at hl 3 rfl) ?_
      refine lv_iload_n hx hb dX4_sumOn_21 rfl (lv_at hl 2 rfl) ?_
      refine lv_bipush (v := 10) hx hb dX4_sumOn_22 (by decide) ?_
      refine lv_irem hx hb dX4_sumOn_24 (by decide) ?_
      obtain ⟨r_3, hf_4, h⟩ := bd_ok h
      refine ck_Vi (rest := [.int x2]) (wn := [(q_t, .inr (3, [.ref q_t_cells, .int t_size])), (q_t_cells, .inl (G.2 0, 49, .inl t_cells))]) ⟨hx, hb, hml, hown, hts⟩ hK hP hD hS hA [0, 1] [] [0, 1] (c_X4_at l G q_t q_t_cells _ t_size t_cells x4 (x3 - x3 / (10 : Int32) * (10 : Int32)) _ hf_4) (cwV 2 hts gX4_sumOn_X4_at rfl rfl rfl (by decide +kernel) ⟨Nat.le_of_ble_eq_true rfl, Nat.le_of_ble_eq_true rfl⟩) rfl rfl rfl rfl rfl rfl (by decide) rfl rfl rfl hl.1 rfl (Nat.le_of_ble_eq_true rfl) dX4_sumOn_25 ⟨Nat.zero_le _, Nat.zero_le _⟩ (fun H locs hP hD hS => ?_)
      refine lv_iadd hx hb dX4_sumOn_28 ?_
      refine lv_topi (fun x2_5 ex2_5 => ?_)
      replace h := pl_v h ex2_5
      refine lv_istore_n (lv' := [(2, .int x2_5), (0, .ref q_t), (3, .int x3), (4, .int x4)]) hx hb dX4_sumOn_29 rfl hl (by decide) rfl (fun ls hl => ?_)
      refine lv_iload_n hx hb dX4_sumOn_30 rfl (lv_at hl 2 rfl) ?_
      refine lv_bipush (v := 10) hx hb dX4_sumOn_31 (by decide) ?_
      refine lv_idiv hx hb dX4_sumOn_33 (by decide) ?_
      refine lv_topi (fun x3_6 ex3_6 => ?_)
      replace h := pl_v h ex3_6
      refine lv_istore_n (lv' := [(3, .int x3_6), (2, .int x2_5), (0, .ref q_t), (4, .int x4)]) hx hb dX4_sumOn_34 rfl hl (by decide) rfl (fun ls hl => ?_)
      obtain ⟨x4_7, ex4_7, h⟩ := pl_ok h
      refine lv_iinc (v := x4_7) (lv' := [(4, .int x4_7), (3, .int x3_6), (2, .int x2_5), (0, .ref q_t)]) hx hb dX4_sumOn_35 hl (k := 3) rfl (by rw [ex4_7]; rfl) (by decide) rfl (fun ls hl => ?_)
      refine lv_goto (tgt := 12) hx hb dX4_sumOn_38 (by decide) ?_
      obtain rfl := sm1 h
      exact ih x2_5 x3_6 x4_7 hk H locs ls hP hD hS (lv_sub hl [3, 2, 1, 0] rfl)
set_option maxHeartbeats 4000000 in
set_option maxRecDepth 100000 in
theorem k_X4_sumOn {p : Program} {l : Launch} {e : Env} {s : State} {m : MethodId} {args : Array Value} {below : List Frame} {meth : Method} {c : Code} {Q : State → Prop} {A0 : Nat → Prop} {H0 : Heap} (C : CallFix p m c cX4_sumOn 5 s args wsX4_sumOn RX4) (G : GT) (hK : gK G s) (hA : ∀ q : Nat, H0.size ≤ q → A0 q) (q_t q_t_cells : Nat) (t_size : Int32) (t_cells : Nat → Int32) (a1 : Int32) (r : Int32) (h : f_X4_sumOn t_size t_cells a1 = some r) (KR : ∀ (H : Heap) (locs : List Loc) (ls : Array Slot) (pc : Nat), decode cX4_sumOn pc = .ok (.ireturn, 1) → va_P G.1 vwCl [(q_t, .inr (3, [.ref q_t_cells, .int t_size])), (q_t_cells, .inl (G.2 0, 49, .inl t_cells))] H → va_D A0 [(q_t, .inr (3, [.ref q_t_cells, .int t_size])), (q_t_cells, .inl (G.2 0, 49, .inl t_cells))] → va_S A0 H0 H locs → W p l e ({ frames := 2, cells := 0, slots := 0, locals := 43 } : Room) s m args below meth c H locs 0 0 Q (F0 m pc ls [.int r])) : ∀ (H : Heap) (locs : List Loc) (ls : Array Slot), va_P G.1 vwCl [(q_t, .inr (3, [.ref q_t_cells, .int t_size])), (q_t_cells, .inl (G.2 0, 49, .inl t_cells))] H → va_D A0 [(q_t, .inr (3, [.ref q_t_cells, .int t_size])), (q_t_cells, .inl (G.2 0, 49, .inl t_cells))] → va_S A0 H0 H locs → lv_has ls 5 [(0, .ref q_t), (1, .int a1)] → W p l e ({ frames := 2, cells := 0, slots := 0, locals := 43 } : Room) s m args below meth c H locs 0 0 Q (F0 m 0 ls []) := by
  obtain ⟨hx, hb, hml, hown, hts⟩ := C
  intro H locs ls hP hD hS hl
  rw [f_X4_sumOn] at h
  refine lv_iconst (v := 0) hx hb dX4_sumOn_0 (by decide) ?_
  refine lv_istore_n (lv' := [(2, .int (0 : Int32)), (0, .ref q_t), (1, .int a1)]) hx hb dX4_sumOn_1 rfl hl (by decide) rfl (fun ls hl => ?_)
  refine lv_iload_n hx hb dX4_sumOn_2 rfl (lv_at hl 2 rfl) ?_
  refine lv_istore_n (lv' := [(3, .int a1), (2, .int (0 : Int32)), (0, .ref q_t), (1, .int a1)]) hx hb dX4_sumOn_3 rfl hl (by decide) rfl (fun ls hl => ?_)
  refine lv_aload_n hx hb dX4_sumOn_4 rfl (lv_at hl 2 rfl) ?_
  refine va_get (D := G.1) (ci := 3) (v := .int t_size) (C := RX4) (T := TX4) (N := 2) hx hb hts wi_X4_sumOn_X4 hown hK hP 0 rfl rfl 1 (by decide) (hts _ wd_X4_sumOn_1) (fun _ h9 => h9) rfl dX4_sumOn_5 ?_
  refine lv_iconst (v := 1) hx hb dX4_sumOn_8 (by decide) ?_
  refine lv_isub hx hb dX4_sumOn_9 ?_
  refine lv_topi (fun x4_1 ex4_1 => ?_)
  replace h := pl_v h ex4_1
  refine lv_istore (lv' := [(4, .int x4_1), (3, .int a1), (2, .int (0 : Int32)), (0, .ref q_t), (1, .int a1)]) hx hb dX4_sumOn_10 hl (by decide) rfl (fun ls hl => ?_)
  obtain ⟨x2_8, hz_10, h⟩ := bd_ok h
  refine l_X4_sumOn_1 ⟨hx, hb, hml, hown, hts⟩ G hK hA q_t q_t_cells t_size t_cells x2_8 ?_ FU (0 : Int32) a1 x4_1 hz_10 H locs ls hP hD hS (lv_sub hl [3, 2, 1, 0] rfl)
  intro H locs ls hP hD hS hl
  refine lv_iload_n hx hb dX4_sumOn_41 rfl (lv_at hl 0 rfl) ?_
  obtain rfl := sm1 h
  exact KR H locs ls 42 dX4_sumOn_42 hP hD hS
set_option maxHeartbeats 4000000 in
set_option maxRecDepth 100000 in
theorem c_X4_sumOn (l : Launch) (G : GT) (q_t q_t_cells : Nat) (sz : Nat) (t_size : Int32) (t_cells : Nat → Int32) (a1 : Int32) (r : Int32) (h : f_X4_sumOn t_size t_cells a1 = some r) : Met l yX4_sumOn wsX4_sumOn ({ frames := 2, cells := 0, slots := 0, locals := 43 } : Room) (va_Pc [.ref q_t, .int a1] (pcW G [(q_t, .inr (3, [.ref q_t_cells, .int t_size])), (q_t_cells, .inl (G.2 0, 49, .inl t_cells))] sz)) (va_Qi (fun r9 (_ : Unit) => r9 = r) (fun _ t => atW G (va_A [(q_t, .inr (3, [.ref q_t_cells, .int t_size])), (q_t_cells, .inl (G.2 0, 49, .inl t_cells))] sz) [(q_t, .inr (3, [.ref q_t_cells, .int t_size])), (q_t_cells, .inl (G.2 0, 49, .inl t_cells))] t) (va_A [(q_t, .inr (3, [.ref q_t_cells, .int t_size])), (q_t_cells, .inl (G.2 0, 49, .inl t_cells))] sz)) 0 0 (va_A [(q_t, .inr (3, [.ref q_t_cells, .int t_size])), (q_t_cells, .inl (G.2 0, 49, .inl t_cells))] sz) := by
  refine Met.ofW (cc := cX4_sumOn) (maxL := 5) (ret := (some .int)) (by decide) rfl ?_
  intro p e s m args below meth c s₁ B hml hv
  obtain ⟨rfl, hsz, hP, hK, hD0⟩ := hv
  subst hsz
  have hD := hD0.self (sz := s.heap.size)
  generalize hAe : va_A [(q_t, .inr (3, [.ref q_t_cells, .int t_size])), (q_t_cells, .inl (G.2 0, 49, .inl t_cells))] s.heap.size = A at hD ⊢
  have hA : ∀ q : Nat, s.heap.size ≤ q → A q := fun q h => by rw [← hAe]; exact Or.inr h
  have hl := lv_entry ([.ref q_t, .int a1]) (n := 5) (Nat.le_of_ble_eq_true rfl)
  rw [lg_entry_eq]
  refine k_X4_sumOn ⟨B.exec, B.bytes, hml, findClass_of_methodNamed B.named, atoms_spec (ws := wsX4_sumOn) B.pre⟩ G hK hA q_t q_t_cells _ _ _ _ h ?_ _ _ _ hP hD va_S.rf hl
  intro H locs ls pc hd hP hD hS
  exact W.iret B.exec B.bytes B.returns (fun t ht hW => ⟨⟨r, (), rfl, rfl, by rw [ht]; exact hP, hD⟩, hS.F ht⟩) hS.2.2 hd B.notSynchronized
