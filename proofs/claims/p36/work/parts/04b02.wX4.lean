set_option maxRecDepth 20000 in
theorem wd_X4_increaseOn_1 : Cond.fieldLink RX4 15 "PermanentDesk$Matrix" "size" "I" ∈ wsX4_increaseOn := List.mem_of_getElem? (i := 1) (by decide +kernel)
set_option maxRecDepth 20000 in
theorem wi_X4_increaseOn_X4 : ∀ w ∈ u_ws RX4 TX4 2, w ∈ wsX4_increaseOn := by decide +kernel
def f_X4_increaseOn_L1 (x2 : Int32) (t_size : Int32) : (Int32 × Int32 × (Nat → Int32)) → Option ((Int32 × Int32 × (Nat → Int32)) ⊕ (Nat → Int32))
  | (x3, x4, t_cells) =>
    if x4 < 0 then
      some (.inr t_cells)
    else
      pl ((x3 - x3 / (10 : Int32) * (10 : Int32)) : Int32) (fun x5_3 =>
      (f_X4_at t_size t_cells x4 x5_3).bind (fun r_4 =>
      (f_X4_put t_size t_cells x4 x5_3 (r_4 + x2)).bind (fun t_cells_6 =>
      pl ((x3 / (10 : Int32)) : Int32) (fun x3_8 =>
      pl ((x4 + (-1 : Int32)) : Int32) (fun x4_9 =>
      some (.inl (x3_8, x4_9, t_cells_6)))))))
def f_X4_increaseOn (t_size : Int32) (t_cells : Nat → Int32) (a1 : Int32) (a2 : Int32) : Option (Nat → Int32) :=
  pl ((t_size - (1 : Int32)) : Int32) (fun x4_1 =>
  (lpN (f_X4_increaseOn_L1 a2 t_size) FU (a1, x4_1, t_cells)).bind (fun t_cells_10 =>
  some t_cells_10))
set_option maxHeartbeats 4000000 in
set_option maxRecDepth 100000 in
theorem l_X4_increaseOn_1 {p : Program} {l : Launch} {e : Env} {s : State} {m : MethodId} {args : Array Value} {below : List Frame} {meth : Method} {c : Code} {Q : State → Prop} {A0 : Nat → Prop} {H0 : Heap} (C : CallFix p m c cX4_increaseOn 6 s args wsX4_increaseOn RX4) (G : GT) (hK : gK G s) (hA : ∀ q : Nat, H0.size ≤ q → A0 q) (q_t q_t_cells : Nat) (x2 : Int32) (t_size : Int32) (E_t_cells : Nat → Int32) (K : ∀ (H : Heap) (locs : List Loc) (ls : Array Slot), va_P G.1 vwCl [(q_t, .inr (3, [.ref q_t_cells, .int t_size])), (q_t_cells, .inl (G.2 0, 49, .inl E_t_cells))] H → va_D A0 [(q_t, .inr (3, [.ref q_t_cells, .int t_size])), (q_t_cells, .inl (G.2 0, 49, .inl E_t_cells))] → va_S A0 H0 H locs → lv_has ls 6 [] → W p l e ({ frames := 2, cells := 0, slots := 0, locals := 44 } : Room) s m args below meth c H locs 0 0 Q (F0 m 50 ls [])) : ∀ (n : Nat) (x3 : Int32) (x4 : Int32) (t_cells : Nat → Int32), lpN (f_X4_increaseOn_L1 x2 t_size) n (x3, x4, t_cells) = some E_t_cells → ∀ (H : Heap) (locs : List Loc) (ls : Array Slot), va_P G.1 vwCl [(q_t, .inr (3, [.ref q_t_cells, .int t_size])), (q_t_cells, .inl (G.2 0, 49, .inl t_cells))] H → va_D A0 [(q_t, .inr (3, [.ref q_t_cells, .int t_size])), (q_t_cells, .inl (G.2 0, 49, .inl t_cells))] → va_S A0 H0 H locs → lv_has ls 6 [(0, .ref q_t), (2, .int x2), (3, .int x3), (4, .int x4)] → W p l e ({ frames := 2, cells := 0, slots := 0, locals := 44 } : Room) s m args below meth c H locs 0 0 Q (F0 m 10 ls []) := by
  obtain ⟨hx, hb, hml, hown, hts⟩ := C
  intro n
  induction n with
  | zero => intro x3 x4 t_cells h; exact absurd h (fun h => lp_0 h)
  | succ n ih =>
    intro x3 x4 t_cells h H locs ls hP hD hS hl
    obtain ⟨y, h, hk⟩ := lp_s h
    rw [f_X4_increaseOn_L1] at h
    refine lv_iload hx hb dX4_increaseOn_10 (lv_at hl 3 rfl) ?_
    refine lv_if_lt (tgt := 50) hx hb dX4_increaseOn_12 (by decide) (fun c_2 => ?_) (fun c_2 => ?_)
    · replace h := it_t h c_2
      obtain rfl := sm1 h
      obtain rfl := sm1 hk
      exact K H locs ls hP hD hS (lv_sub hl [] rfl)
    · replace h := it_f h c_2
      refine lv_iload_n hx hb dX4_increaseOn_15 rfl (lv_at hl 2 rfl) ?_
      refine lv_bipush (v := 10) hx hb dX4_increaseOn_16 (by decide) ?_
      refine lv_irem hx hb dX4_increaseOn_18 (by decide) ?_
      refine lv_topi (fun x5_3 ex5_3 => ?_)
      replace h := pl_v h ex5_3
      refine lv_istore (lv' := [(5, .int x5_3), (0, .ref q_t), (2, .int x2), (3, .int x3), (4, .int x4)]) hx hb dX4_increaseOn_19 hl (by decide) rfl (fun ls hl => ?_)
      refine lv_aload_n hx hb dX4_increaseOn_21 rfl (lv_at hl 1 rfl) ?_
      refine lv_iload hx hb dX4_increaseOn_22 (lv_at hl 4 rfl) ?_
      refine lv_iload hx hb dX4_increaseOn_24 (lv_at hl 0 rfl) ?_
      refine lv_aload_n hx hb dX4_increaseOn_26 rfl (lv_at hl 1 rfl) ?_
      refine lv_iload hx hb dX4_increaseOn_27 (lv_at hl 4 rfl) ?_
      refine lv_iload hx hb dX4_increaseOn_29 (lv_at hl 0 rfl) ?_
      obtain ⟨r_4, hf_5, h⟩ := bd_ok h
      refine ck_Vi (rest := [.int x5_3, .int x4, .ref q_t]) (wn := [(q_t, .inr (3, [.ref q_t_cells, .int t_size])), (q_t_cells, .inl (G.2 0, 49, .inl t_cells))]) ⟨hx, hb, hml, hown, hts⟩ hK hP hD hS hA [0, 1] [] [0, 1] (c_X4_at l G q_t q_t_cells _ t_size t_cells x4 x5_3 _ hf_5) (cwV 2 hts gX4_increaseOn_X4_at rfl rfl rfl (by decide +kernel) ⟨Nat.le_of_ble_eq_true rfl, Nat.le_of_ble_eq_true rfl⟩) rfl rfl rfl rfl rfl rfl (by decide) rfl rfl rfl hl.1 rfl (Nat.le_of_ble_eq_true rfl) dX4_increaseOn_31 ⟨Nat.zero_le _, Nat.zero_le _⟩ (fun H locs hP hD hS => ?_)
      refine lv_iload_n hx hb dX4_increaseOn_34 rfl (lv_at hl 2 rfl) ?_
      refine lv_iadd hx hb dX4_increaseOn_35 ?_
      obtain ⟨t_cells_6, hf_7, h⟩ := bd_ok h
      refine ck_Vv (rest := []) (wn := [(q_t, .inr (3, [.ref q_t_cells, .int t_size])), (q_t_cells, .inl (G.2 0, 49, .inl t_cells_6))]) ⟨hx, hb, hml, hown, hts⟩ hK hP hD hS hA [0, 1] [] [0, 1] (c_X4_put l G q_t q_t_cells _ t_size t_cells x4 x5_3 (r_4 + x2) _ hf_7) (cwV 3 hts gX4_increaseOn_X4_put rfl rfl rfl (by decide +kernel) ⟨Nat.le_of_ble_eq_true rfl, Nat.le_of_ble_eq_true rfl⟩) rfl rfl rfl rfl rfl rfl (by decide) rfl rfl rfl hl.1 rfl (Nat.le_of_ble_eq_true rfl) dX4_increaseOn_36 ⟨Nat.zero_le _, Nat.zero_le _⟩ (fun H locs hP hD hS => ?_)
      refine lv_iload_n hx hb dX4_increaseOn_39 rfl (lv_at hl 3 rfl) ?_
      refine lv_bipush (v := 10) hx hb dX4_increaseOn_40 (by decide) ?_
      refine lv_idiv hx hb dX4_increaseOn_42 (by decide) ?_
      refine lv_topi (fun x3_8 ex3_8 => ?_)
      replace h := pl_v h ex3_8
      refine lv_istore_n (lv' := [(3, .int x3_8), (5, .int x5_3), (0, .ref q_t), (2, .int x2), (4, .int x4)]) hx hb dX4_increaseOn_43 rfl hl (by decide) rfl (fun ls hl => ?_)
      obtain ⟨x4_9, ex4_9, h⟩ := pl_ok h
      refine lv_iinc (v := x4_9) (lv' := [(4, .int x4_9), (3, .int x3_8), (5, .int x5_3), (0, .ref q_t), (2, .int x2)]) hx hb dX4_increaseOn_44 hl (k := 4) rfl (by rw [ex4_9]; rfl) (by decide) rfl (fun ls hl => ?_)
      refine lv_goto (tgt := 10) hx hb dX4_increaseOn_47 (by decide) ?_
      obtain rfl := sm1 h
      exact ih x3_8 x4_9 t_cells_6 hk H locs ls hP hD hS (lv_sub hl [3, 4, 1, 0] rfl)
set_option maxHeartbeats 4000000 in
set_option maxRecDepth 100000 in
theorem k_X4_increaseOn {p : Program} {l : Launch} {e : Env} {s : State} {m : MethodId} {args : Array Value} {below : List Frame} {meth : Method} {c : Code} {Q : State → Prop} {A0 : Nat → Prop} {H0 : Heap} (C : CallFix p m c cX4_increaseOn 6 s args wsX4_increaseOn RX4) (G : GT) (hK : gK G s) (hA : ∀ q : Nat, H0.size ≤ q → A0 q) (q_t q_t_cells : Nat) (t_size : Int32) (t_cells : Nat → Int32) (a1 : Int32) (a2 : Int32) (o_t_cells : Nat → Int32) (h : f_X4_increaseOn t_size t_cells a1 a2 = some o_t_cells) (KR : ∀ (H : Heap) (locs : List Loc) (ls : Array Slot) (pc : Nat), decode cX4_increaseOn pc = .ok (.return_, 1) → va_P G.1 vwCl [(q_t, .inr (3, [.ref q_t_cells, .int t_size])), (q_t_cells, .inl (G.2 0, 49, .inl o_t_cells))] H → va_D A0 [(q_t, .inr (3, [.ref q_t_cells, .int t_size])), (q_t_cells, .inl (G.2 0, 49, .inl o_t_cells))] → va_S A0 H0 H locs → W p l e ({ frames := 2, cells := 0, slots := 0, locals := 44 } : Room) s m args below meth c H locs 0 0 Q (F0 m pc ls [])) : ∀ (H : Heap) (locs : List Loc) (ls : Array Slot), va_P G.1 vwCl [(q_t, .inr (3, [.ref q_t_cells, .int t_size])), (q_t_cells, .inl (G.2 0, 49, .inl t_cells))] H → va_D A0 [(q_t, .inr (3, [.ref q_t_cells, .int t_size])), (q_t_cells, .inl (G.2 0, 49, .inl t_cells))] → va_S A0 H0 H locs → lv_has ls 6 [(0, .ref q_t), (1, .int a1), (2, .int a2)] → W p l e ({ frames := 2, cells := 0, slots := 0, locals := 44 } : Room) s m args below meth c H locs 0 0 Q (F0 m 0 ls []) := by
  obtain ⟨hx, hb, hml, hown, hts⟩ := C
  intro H locs ls hP hD hS hl
  rw [f_X4_increaseOn] at h
  refine lv_iload_n hx hb dX4_increaseOn_0 rfl (lv_at hl 1 rfl) ?_
  refine lv_istore_n (lv' := [(3, .int a1), (0, .ref q_t), (1, .int a1), (2, .int a2)]) hx hb dX4_increaseOn_1 rfl hl (by decide) rfl (fun ls hl => ?_)
  refine lv_aload_n hx hb dX4_increaseOn_2 rfl (lv_at hl 1 rfl) ?_
  refine va_get (D := G.1) (ci := 3) (v := .int t_size) (C := RX4) (T := TX4) (N := 2) hx hb hts wi_X4_increaseOn_X4 hown hK hP 0 rfl rfl 1 (by decide) (hts _ wd_X4_increaseOn_1) (fun _ h9 => h9) rfl dX4_increaseOn_3 ?_
  refine lv_iconst (v := 1) hx hb dX4_increaseOn_6 (by decide) ?_
  refine lv_isub hx hb dX4_increaseOn_7 ?_
  refine lv_topi (fun x4_1 ex4_1 => ?_)
  replace h := pl_v h ex4_1
  refine lv_istore (lv' := [(4, .int x4_1), (3, .int a1), (0, .ref q_t), (1, .int a1), (2, .int a2)]) hx hb dX4_increaseOn_8 hl (by decide) rfl (fun ls hl => ?_)
  obtain ⟨t_cells_10, hz_12, h⟩ := bd_ok h
  refine l_X4_increaseOn_1 ⟨hx, hb, hml, hown, hts⟩ G hK hA q_t q_t_cells a2 t_size t_cells_10 ?_ FU a1 x4_1 t_cells hz_12 H locs ls hP hD hS (lv_sub hl [2, 4, 1, 0] rfl)
  intro H locs ls hP hD hS hl
  obtain rfl := sm1 h
  exact KR H locs ls 50 dX4_increaseOn_50 hP hD hS
set_option maxHeartbeats 4000000 in
set_option maxRecDepth 100000 in
theorem c_X4_increaseOn (l : Launch) (G : GT) (q_t q_t_cells : Nat) (sz : Nat) (t_size : Int32) (t_cells : Nat → Int32) (a1 : Int32) (a2 : Int32) (o_t_cells : Nat → Int32) (h : f_X4_increaseOn t_size t_cells a1 a2 = some o_t_cells) : Met l yX4_increaseOn wsX4_increaseOn ({ frames := 2, cells := 0, slots := 0, locals := 44 } : Room) (va_Pc [.ref q_t, .int a1, .int a2] (pcW G [(q_t, .inr (3, [.ref q_t_cells, .int t_size])), (q_t_cells, .inl (G.2 0, 49, .inl t_cells))] sz)) (va_Qv (fun (_ : Unit) => True) (fun _ t => atW G (va_A [(q_t, .inr (3, [.ref q_t_cells, .int t_size])), (q_t_cells, .inl (G.2 0, 49, .inl t_cells))] sz) [(q_t, .inr (3, [.ref q_t_cells, .int t_size])), (q_t_cells, .inl (G.2 0, 49, .inl o_t_cells))] t) (va_A [(q_t, .inr (3, [.ref q_t_cells, .int t_size])), (q_t_cells, .inl (G.2 0, 49, .inl t_cells))] sz)) 0 0 (va_A [(q_t, .inr (3, [.ref q_t_cells, .int t_size])), (q_t_cells, .inl (G.2 0, 49, .inl t_cells))] sz) := by
  refine Met.ofW (cc := cX4_increaseOn) (maxL := 6) (ret := none) (by decide) rfl ?_
  intro p e s m args below meth c s₁ B hml hv
  obtain ⟨rfl, hsz, hP, hK, hD0⟩ := hv
  subst hsz
  have hD := hD0.self (sz := s.heap.size)
  generalize hAe : va_A [(q_t, .inr (3, [.ref q_t_cells, .int t_size])), (q_t_cells, .inl (G.2 0, 49, .inl t_cells))] s.heap.size = A at hD ⊢
  have hA : ∀ q : Nat, s.heap.size ≤ q → A q := fun q h => by rw [← hAe]; exact Or.inr h
  have hl := lv_entry ([.ref q_t, .int a1, .int a2]) (n := 6) (Nat.le_of_ble_eq_true rfl)
  rw [lg_entry_eq]
  refine k_X4_increaseOn ⟨B.exec, B.bytes, hml, findClass_of_methodNamed B.named, atoms_spec (ws := wsX4_increaseOn) B.pre⟩ G hK hA q_t q_t_cells _ _ _ _ _ h ?_ _ _ _ hP hD va_S.rf hl
  intro H locs ls pc hd hP hD hS
  exact W.vret B.exec B.bytes B.returns (fun t ht hW => ⟨⟨(), rfl, trivial, by rw [ht]; exact hP, hD⟩, hS.F ht⟩) hS.2.2 hd B.notSynchronized
