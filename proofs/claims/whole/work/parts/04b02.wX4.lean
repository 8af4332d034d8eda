set_option maxRecDepth 20000 in
theorem wd_X4_greatestOn_1 : Cond.fieldLink RX4 15 "PermanentDesk$Matrix" "size" "I" ∈ wsX4_greatestOn := List.mem_of_getElem? (i := 1) (by decide +kernel)
set_option maxRecDepth 20000 in
theorem wi_X4_greatestOn_X4 : ∀ w ∈ u_ws RX4 TX4 2, w ∈ wsX4_greatestOn := by decide +kernel
set_option maxRecDepth 20000 in
theorem wd_X4_greatestOn_2 : Cond.methodLink RX4 56 Lib.Math.max.name ∈ wsX4_greatestOn := List.mem_of_getElem? (i := 2) (by decide +kernel)
set_option maxRecDepth 20000 in
theorem wd_X4_greatestOn_3 : Cond.static Lib.Math.max.name ∈ wsX4_greatestOn := List.mem_of_getElem? (i := 3) (by decide +kernel)
set_option maxRecDepth 20000 in
theorem wd_X4_greatestOn_4 : Cond.initialized "java/lang/Math" ∈ wsX4_greatestOn := List.mem_of_getElem? (i := 4) (by decide +kernel)
set_option maxRecDepth 20000 in
theorem wd_X4_greatestOn_5 : Cond.code Lib.Math.max.name Lib.Math.max.code 2 (some .int) ∈ wsX4_greatestOn := List.mem_of_getElem? (i := 5) (by decide +kernel)
def f_X4_greatestOn_L1 (t_size : Int32) (t_cells : Nat → Int32) : (Int32 × Int32 × Int32) → Option ((Int32 × Int32 × Int32) ⊕ Int32)
  | (x2, x3, x4) =>
    if x4 < 0 then
      some (.inr x2)
    else
      (f_X4_at t_size t_cells x4 (x3 - x3 / (10 : Int32) * (10 : Int32))).bind (fun r_3 =>
      pl ((if x2 < r_3 then r_3 else x2) : Int32) (fun x2_5 =>
      pl ((x3 / (10 : Int32)) : Int32) (fun x3_6 =>
      pl ((x4 + (-1 : Int32)) : Int32) (fun x4_7 =>
      some (.inl (x2_5, x3_6, x4_7))))))
def f_X4_greatestOn (t_size : Int32) (t_cells : Nat → Int32) (a1 : Int32) : Option Int32 :=
  pl ((t_size - (1 : Int32)) : Int32) (fun x4_1 =>
  (lpN (f_X4_greatestOn_L1 t_size t_cells) FU ((-20 : Int32), a1, x4_1)).bind (fun x2_8 =>
  some x2_8))
set_option maxHeartbeats 4000000 in
set_option maxRecDepth 100000 in
theorem l_X4_greatestOn_1 {p : Program} {l : Launch} {e : Env} {s : State} {m : MethodId} {args : Array Value} {below : List Frame} {meth : Method} {c : Code} {Q : State → Prop} {A0 : Nat → Prop} {H0 : Heap} (C : CallFix p m c cX4_greatestOn 5 s args wsX4_greatestOn RX4) (G : GT) (hK : gK G s) (hA : ∀ q : Nat, H0.size ≤ q → A0 q) (q_t q_t_cells : Nat) (t_size : Int32) (t_cells : Nat → Int32) (E_x2 : Int32) (K : ∀ (H : Heap) (locs : List Loc) (ls : Array Slot), va_P G.1 vwCl [(q_t, .inr (3, [.ref q_t_cells, .int t_size])), (q_t_cells, .inl (G.2 0, 49, .inl t_cells))] H → va_D A0 [(q_t, .inr (3, [.ref q_t_cells, .int t_size])), (q_t_cells, .inl (G.2 0, 49, .inl t_cells))] → va_S A0 H0 H locs → lv_has ls 5 [(2, .int E_x2)] → W p l e ({ frames := 2, cells := 0, slots := 0, locals := 60 } : Room) s m args below meth c H locs 0 0 Q (F0 m 44 ls [])) : ∀ (n : Nat) (x2 : Int32) (x3 : Int32) (x4 : Int32), lpN (f_X4_greatestOn_L1 t_size t_cells) n (x2, x3, x4) = some E_x2 → ∀ (H : Heap) (locs : List Loc) (ls : Array Slot), va_P G.1 vwCl [(q_t, .inr (3, [.ref q_t_cells, .int t_size])), (q_t_cells, .inl (G.2 0, 49, .inl t_cells))] H → va_D A0 [(q_t, .inr (3, [.ref q_t_cells, .int t_size])), (q_t_cells, .inl (G.2 0, 49, .inl t_cells))] → va_S A0 H0 H locs → lv_has ls 5 [(0, .ref q_t), (2, .int x2), (3, .int x3), (4, .int x4)] → W p l e ({ frames := 2, cells := 0, slots := 0, locals := 60 } : Room) s m args below meth c H locs 0 0 Q (F0 m 13 ls []) := by
  obtain ⟨hx, hb, hml, hown, hts⟩ := C
  intro n
  induction n with
  | zero => intro x2 x3 x4 h; exact absurd h (fun h => lp_0 h)
  | succ n ih =>
    intro x2 x3 x4 h H locs ls hP hD hS hl
    obtain ⟨y, h, hk⟩ := lp_s h
    rw [f_X4_greatestOn_L1] at h
    refine lv_iload hx hb dX4_greatestOn_13 (lv_at hl 3 rfl) ?_
    refine lv_if_lt (tgt := 44) hx hb dX4_greatestOn_15 (by decide) (fun c_2 => ?_) (fun c_2 => ?_)
    · replace h := it_t h c_2
      obtain rfl := sm1 h
      obtain rfl := sm1 hk
      exact K H locs ls hP hD hS (lv_sub hl [1] rfl)
    · replace h := it_f h c_2
      refine lv_iload_n hx hb dX4_greatestOn_18 rfl (lv_at hl 1 rfl) ?_
      refine lv_aload_n hx hb dX4_greatestOn_19 rfl (lv_at hl 0 rfl) ?_
      refine lv_iload hx hb dX4_greatestOn_20 (lv_at hl 3 rfl) ?_
      refine lv_iload_n hx hb dX4_greatestOn_22 rfl (lv_at hl 2 rfl) ?_
      refine lv_bipush (v := 10) hx hb dX4_greatestOn_23 (by decide) ?_
      refine lv_irem hx hb dX4_greatestOn_25 (by decide) ?_
      obtain ⟨r_3, hf_4, h⟩ := bd_ok h
      refine ck_Vi (rest := [.int x2]) (wn := [(q_t, .inr (3, [.ref q_t_cells, .int t_size])), (q_t_cells, .inl (G.2 0, 49, .inl t_cells))]) ⟨hx, hb, hml, hown, hts⟩ hK hP hD hS hA [0, 1] [] [0, 1] (c_X4_at l G q_t q_t_cells _ t_size t_cells x4 (x3 - x3 / (10 : Int32) * (10 : Int32)) _ hf_4) (cwV 2 hts gX4_greatestOn_X4_at rfl rfl rfl (by decide +kernel) ⟨Nat.le_of_ble_eq_true rfl, Nat.le_of_ble_eq_true rfl⟩) rfl rfl rfl rfl rfl rfl (by decide) rfl rfl rfl hl.1 rfl (Nat.le_of_ble_eq_true rfl) dX4_greatestOn_26 ⟨Nat.zero_le _, Nat.zero_le _⟩ (fun H locs hP hD hS => ?_)
      refine va_mmax hx hb (hml.trans hl.1.symm) hown (hts _ wd_X4_greatestOn_2) (hts _ wd_X4_greatestOn_3) (hts _ wd_X4_greatestOn_4) (hts _ wd_X4_greatestOn_5) (Nat.le_of_ble_eq_true rfl) (Nat.le_of_ble_eq_true rfl) (Nat.zero_le _) (Nat.zero_le _) dX4_greatestOn_29 ?_
      refine lv_topi (fun x2_5 ex2_5 => ?_)
      replace h := pl_v h ex2_5
      refine lv_istore_n (lv' := [(2, .int x2_5), (0, .ref q_t), (3, .int x3), (4, .int x4)]) hx hb dX4_greatestOn_32 rfl hl (by decide) rfl (fun ls hl => ?_)
      refine lv_iload_n hx hb dX4_greatestOn_33 rfl (lv_at hl 2 rfl) ?_
      refine lv_bipush (v := 10) hx hb dX4_greatestOn_34 (by decide) ?_
      refine lv_idiv hx hb dX4_greatestOn_36 (by decide) ?_
      refine lv_topi (fun x3_6 ex3_6 => ?_)
      replace h := pl_v h ex3_6
      refine lv_istore_n (lv' := [(3, .int x3_6), (2, .int x2_5), (0, .ref q_t), (4, .int x4)]) hx hb dX4_greatestOn_37 rfl hl (by decide) rfl (fun ls hl => ?_)
      obtain ⟨x4_7, ex4_7, h⟩ := pl_ok h
      refine lv_iinc (v := x4_7) (lv' := [(4, .int x4_7), (3, .int x3_6), (2, .int x2_5), (0, .ref q_t)]) hx hb dX4_greatestOn_38 hl (k := 3) rfl (by rw [ex4_7]; rfl) (by decide) rfl (fun ls hl => ?_)
      refine lv_goto (tgt := 13) hx hb dX4_greatestOn_41 (by decide) ?_
      obtain rfl := sm1 h
      exact ih x2_5 x3_6 x4_7 hk H locs ls hP hD hS (lv_sub hl [3, 2, 1, 0] rfl)
set_option maxHeartbeats 4000000 in
set_option maxRecDepth 100000 in
theorem k_X4_greatestOn {p : Program} {l : Launch} {e : Env} {s : State} {m : MethodId} {args : Array Value} {below : List Frame} {meth : Method} {c : Code} {Q : State → Prop} {A0 : Nat → Prop} {H0 : Heap} (C : CallFix p m c cX4_greatestOn 5 s args wsX4_greatestOn RX4) (G : GT) (hK : gK G s) (hA : ∀ q : Nat, H0.size ≤ q → A0 q) (q_t q_t_cells : Nat) (t_size : Int32) (t_cells : Nat → Int32) (a1 : Int32) (r : Int32) (h : f_X4_greatestOn t_size t_cells a1 = some r) (KR : ∀ (H : Heap) (locs : List Loc) (ls : Array Slot) (pc : Nat), decode cX4_greatestOn pc = .ok (.ireturn, 1) → va_P G.1 vwCl [(q_t, .inr (3, [.ref q_t_cells, .int t_size])), (q_t_cells, .inl (G.2 0, 49, .inl t_cells))] H → va_D A0 [(q_t, .inr (3, [.ref q_t_cells, .int t_size])), (q_t_cells, .inl (G.2 0, 49, .inl t_cells))] → va_S A0 H0 H locs → W p l e ({ frames := 2, cells := 0, slots := 0, locals := 60 } : Room) s m args below meth c H locs 0 0 Q (F0 m pc ls [.int r])) : ∀ (H : Heap) (locs : List Loc) (ls : Array Slot), va_P G.1 vwCl [(q_t, .inr (3, [.ref q_t_cells, .int t_size])), (q_t_cells, .inl (G.2 0, 49, .inl t_cells))] H → va_D A0 [(q_t, .inr (3, [.ref q_t_cells, .int t_size])), (q_t_cells, .inl (G.2 0, 49, .inl t_cells))] → va_S A0 H0 H locs → lv_has ls 5 [(0, .ref q_t), (1, .int a1)] → W p l e ({ frames := 2, cells := 0, slots := 0, locals := 60 } : Room) s m args below meth c H locs 0 0 Q (F0 m 0 ls []) := by
  obtain ⟨hx, hb, hml, hown, hts⟩ := C
  intro H locs ls hP hD hS hl
  rw [f_X4_greatestOn] at h
  refine lv_bipush (v := -20) hx hb dX4_greatestOn_0 (by decide) ?_
  refine lv_istore_n (lv' := [(2, .int (-20 : Int32)), (0, .ref q_t), (1, .int a1)]) hx hb dX4_greatestOn_2 rfl hl (by decide) rfl (fun ls hl => ?_)
  refine lv_iload_n hx hb dX4_greatestOn_3 rfl (lv_at hl 2 rfl) ?_
  refine lv_istore_n (lv' := [(3, .int a1), (2, .int (-20 : Int32)), (0, .ref q_t), (1, .int a1)]) hx hb dX4_greatestOn_4 rfl hl (by decide) rfl (fun ls hl => ?_)
  refine lv_aload_n hx hb dX4_greatestOn_5 rfl (lv_at hl 2 rfl) ?_
  refine va_get (D := G.1) (ci := 3) (v := .int t_size) (C := RX4) (T := TX4) (N := 2) hx hb hts wi_X4_greatestOn_X4 hown hK hP 0 rfl rfl 1 (by decide) (hts _ wd_X4_greatestOn_1) (fun _ h9 => h9) rfl dX4_greatestOn_6 ?_
  refine lv_iconst (v := 1) hx hb dX4_greatestOn_9 (by decide) ?_
  refine lv_isub hx hb dX4_greatestOn_10 ?_
  refine lv_topi (fun x4_1 ex4_1 => ?_)
  replace h := pl_v h ex4_1
  refine lv_istore (lv' := [(4, .int x4_1), (3, .int a1), (2, .int (-20 : Int32)), (0, .ref q_t), (1, .int a1)]) hx hb dX4_greatestOn_11 hl (by decide) rfl (fun ls hl => ?_)
  obtain ⟨x2_8, hz_10, h⟩ := bd_ok h
  refine l_X4_greatestOn_1 ⟨hx, hb, hml, hown, hts⟩ G hK hA q_t q_t_cells t_size t_cells x2_8 ?_ FU (-20 : Int32) a1 x4_1 hz_10 H locs ls hP hD hS (lv_sub hl [3, 2, 1, 0] rfl)
  intro H locs ls hP hD hS hl
  refine lv_iload_n hx hb dX4_greatestOn_44 rfl (lv_at hl 0 rfl) ?_
  obtain rfl := sm1 h
  exact KR H locs ls 45 dX4_greatestOn_45 hP hD hS
set_option maxHeartbeats 4000000 in
set_option maxRecDepth 100000 in
theorem c_X4_greatestOn (l : Launch) (G : GT) (q_t q_t_cells : Nat) (sz : Nat) (t_size : Int32) (t_cells : Nat → Int32) (a1 : Int32) (r : Int32) (h : f_X4_greatestOn t_size t_cells a1 = some r) : Met l yX4_greatestOn wsX4_greatestOn ({ frames := 2, cells := 0, slots := 0, locals := 60 } : Room) (va_Pc [.ref q_t, .int a1] (pcW G [(q_t, .inr (3, [.ref q_t_cells, .int t_size])), (q_t_cells, .inl (G.2 0, 49, .inl t_cells))] sz)) (va_Qi (fun r9 (_ : Unit) => r9 = r) (fun _ t => atW G (va_A [(q_t, .inr (3, [.ref q_t_cells, .int t_size])), (q_t_cells, .inl (G.2 0, 49, .inl t_cells))] sz) [(q_t, .inr (3, [.ref q_t_cells, .int t_size])), (q_t_cells, .inl (G.2 0, 49, .inl t_cells))] t) (va_A [(q_t, .inr (3, [.ref q_t_cells, .int t_size])), (q_t_cells, .inl (G.2 0, 49, .inl t_cells))] sz)) 0 0 (va_A [(q_t, .inr (3, [.ref q_t_cells, .int t_size])), (q_t_cells, .inl (G.2 0, 49, .inl t_cells))] sz) := by
  refine Met.ofW (cc := cX4_greatestOn) (maxL := 5) (ret := (some .int)) (by decide) rfl ?_
  intro p e s m args below meth c s₁ B hml hv
  obtain ⟨rfl, hsz, hP, hK, hD0⟩ := hv
  subst hsz
  have hD := hD0.self (sz := s.heap.size)
  generalize hAe : va_A [(q_t, .inr (3, [.ref q_t_cells, .int t_size])), (q_t_cells, .inl (G.2 0, 49, .inl t_cells))] s.heap.size = A at hD ⊢
  have hA : ∀ q : Nat, s.heap.size ≤ q → A q := fun q h => by rw [← hAe]; exact Or.inr h
  have hl := lv_entry ([.ref q_t, .int a1]) (n := 5) (Nat.le_of_ble_eq_true rfl)
  rw [lg_entry_eq]
  refine k_X4_greatestOn ⟨B.exec, B.bytes, hml, findClass_of_methodNamed B.named, atoms_spec (ws := wsX4_greatestOn) B.pre⟩ G hK hA q_t q_t_cells _ _ _ _ h ?_ _ _ _ hP hD va_S.rf hl
  intro H locs ls pc hd hP hD hS
  exact W.iret B.exec B.bytes B.returns (fun t ht hW => ⟨⟨r, (), rfl, rfl, by rw [ht]; exact hP, hD⟩, hS.F ht⟩) hS.2.2 hd B.notSynchronized
set_option maxRecDepth 20000 in
theorem wd_X4_leastOn_1 : Cond.fieldLink RX4 15 "PermanentDesk$Matrix" "size" "I" ∈ wsX4_leastOn := List.mem_of_getElem? (i := 1) (by decide +kernel)
set_option maxRecDepth 20000 in
theorem wi_X4_leastOn_X4 : ∀ w ∈ u_ws RX4 TX4 2, w ∈ wsX4_leastOn := by decide +kernel
set_option maxRecDepth 20000 in
theorem wd_X4_leastOn_2 : Cond.methodLink RX4 61 Lib.Math.min.name ∈ wsX4_leastOn := List.mem_of_getElem? (i := 2) (by decide +kernel)
set_option maxRecDepth 20000 in
theorem wd_X4_leastOn_3 : Cond.static Lib.Math.min.name ∈ wsX4_leastOn := List.mem_of_getElem? (i := 3) (by decide +kernel)
set_option maxRecDepth 20000 in
theorem wd_X4_leastOn_4 : Cond.initialized "java/lang/Math" ∈ wsX4_leastOn := List.mem_of_getElem? (i := 4) (by decide +kernel)
set_option maxRecDepth 20000 in
theorem wd_X4_leastOn_5 : Cond.code Lib.Math.min.name Lib.Math.min.code 2 (some .int) ∈ wsX4_leastOn := List.mem_of_getElem? (i := 5) (by decide +kernel)
def f_X4_leastOn_L1 (t_size : Int32) (t_cells : Nat → Int32) : (Int32 × Int32 × Int32) → Option ((Int32 × Int32 × Int32) ⊕ Int32)
  | (x2, x3, x4) =>
    if x4 < 0 then
      some (.inr x2)
    else
      (f_X4_at t_size t_cells x4 (x3 - x3 / (10 : Int32) * (10 : Int32))).bind (fun r_3 =>
      pl ((if r_3 < x2 then r_3 else x2) : Int32) (fun x2_5 =>
      pl ((x3 / (10 : Int32)) : Int32) (fun x3_6 =>
      pl ((x4 + (-1 : Int32)) : Int32) (fun x4_7 =>
      some (.inl (x2_5, x3_6, x4_7))))))
def f_X4_leastOn (t_size : Int32) (t_cells : Nat → Int32) (a1 : Int32) : Option Int32 :=
  pl ((t_size - (1 : Int32)) : Int32) (fun x4_1 =>
  (lpN (f_X4_leastOn_L1 t_size t_cells) FU ((20 : Int32), a1, x4_1)).bind (fun x2_8 =>
  some x2_8))
set_option maxHeartbeats 4000000 in
set_option maxRecDepth 100000 in
theorem l_X4_leastOn_1 {p : Program} {l : Launch} {e : Env} {s : State} {m : MethodId} {args : Array Value} {below : List Frame} {meth : Method} {c : Code} {Q : State → Prop} {A0 : Nat → Prop} {H0 : Heap} (C : CallFix p m c cX4_leastOn 5 s args wsX4_leastOn RX4) (G : GT) (hK : gK G s) (hA : ∀ q : Nat, H0.size ≤ q → A0 q) (q_t q_t_cells : Nat) (t_size : Int32) (t_cells : Nat → Int32) (E_x2 : Int32) (K : ∀ (H : Heap) (locs : List Loc) (ls : Array Slot), va_P G.1 vwCl [(q_t, .inr (3, [.ref q_t_cells, .int t_size])), (q_t_cells, .inl (G.2 0, 49, .inl t_cells))] H → va_D A0 [(q_t, .inr (3, [.ref q_t_cells, .int t_size])), (q_t_cells, .inl (G.2 0, 49, .inl t_cells))] → va_S A0 H0 H locs → lv_has ls 5 [(2, .int E_x2)] → W p l e ({ frames := 2, cells := 0, slots := 0, locals := 60 } : Room) s m args below meth c H locs 0 0 Q (F0 m 44 ls [])) : ∀ (n : Nat) (x2 : Int32) (x3 : Int32) (x4 : Int32), lpN (f_X4_leastOn_L1 t_size t_cells) n (x2, x3, x4) = some E_x2 → ∀ (H : Heap) (locs : List Loc) (ls : Array Slot), va_P G.1 vwCl [(q_t, .inr (3, [.ref q_t_cells, .int t_size])), (q_t_cells, .inl (G.2 0, 49, .inl t_cells))] H → va_D A0 [(q_t, .inr (3, [.ref q_t_cells, .int t_size])), (q_t_cells, .inl (G.2 0, 49, .inl t_cells))] → va_S A0 H0 H locs → lv_has ls 5 [(0, .ref q_t), (2, .int x2), (3, .int x3), (4, .int x4)] → W p l e ({ frames := 2, cells := 0, slots := 0, locals := 60 } : Room) s m args below meth c H locs 0 0 Q (F0 m 13 ls []) := by
  obtain ⟨hx, hb, hml, hown, hts⟩ := C
  intro n
  induction n with
  | zero => intro x2 x3 x4 h; exact absurd h (fun h => lp_0 h)
  | succ n ih =>
    intro x2 x3 x4 h H locs ls hP hD hS hl
    obtain ⟨y, h, hk⟩ := lp_s h
    rw [f_X4_leastOn_L1] at h
    refine lv_iload hx hb dX4_leastOn_13 (lv_at hl 3 rfl) ?_
    refine lv_if_lt (tgt := 44) hx hb dX4_leastOn_15 (by decide) (fun c_2 => ?_) (fun c_2 => ?_)
    · replace h := it_t h c_2
      obtain rfl := sm1 h
      obtain rfl := sm1 hk
      exact K H locs ls hP hD hS (lv_sub hl [1] rfl)
    · replace h := it_f h c_2
      refine lv_iload_n hx hb dX4_leastOn_18 rfl (lv_at hl 1 rfl) ?_
      refine lv_aload_n hx hb dX4_leastOn_19 rfl (lv_at hl 0 rfl) ?_
      refine lv_iload hx hb dX4_leastOn_20 (lv_at hl 3 rfl) ?_
      refine lv_iload_n hx hb dX4_leastOn_22 rfl (lv_at hl 2 rfl) ?_
      refine lv_bipush (v := 10) hx hb dX4_leastOn_23 (by decide) ?_
      refine lv_irem hx hb dX4_leastOn_25 (by decide) ?_
      obtain ⟨r_3, hf_4, h⟩ := bd_ok h
      refine ck_Vi (rest := [.int x2]) (wn := [(q_t, .inr (3, [.ref q_t_cells, .int t_size])), (q_t_cells, .inl (G.2 0, 49, .inl t_cells))]) ⟨hx, hb, hml, hown, hts⟩ hK hP hD hS hA [0, 1] [] [0, 1] (c_X4_at l G q_t q_t_cells _ t_size t_cells x4 (x3 - x3 / (10 : Int32) * (10 : Int32)) _ hf_4) (cwV 2 hts gX4_leastOn_X4_at rfl rfl rfl (by decide +kernel) ⟨Nat.le_of_ble_eq_true rfl, Nat.le_of_ble_eq_true rfl⟩) rfl rfl rfl rfl rfl rfl (by decide) rfl rfl rfl hl.1 rfl (Nat.le_of_ble_eq_true rfl) dX4_leastOn_26 ⟨Nat.zero_le _, Nat.zero_le _⟩ (fun H locs hP hD hS => ?_)
      refine va_mmin hx hb (hml.trans hl.1.symm) hown (hts _ wd_X4_leastOn_2) (hts _ wd_X4_leastOn_3) (hts _ wd_X4_leastOn_4) (hts _ wd_X4_leastOn_5) (Nat.le_of_ble_eq_true rfl) (Nat.le_of_ble_eq_true rfl) (Nat.zero_le _) (Nat.zero_le _) dX4_leastOn_29 ?_
      refine lv_topi (fun x2_5 ex2_5 => ?_)
      replace h := pl_v h ex2_5
      refine lv_istore_n (lv' := [(2, .int x2_5), (0, .ref q_t), (3, .int x3), (4, .int x4)]) hx hb dX4_leastOn_32 rfl hl (by decide) rfl (fun ls hl => ?_)
      refine lv_iload_n hx hb dX4_leastOn_33 rfl (lv_at hl 2 rfl) ?_
      refine lv_bipush (v := 10) hx hb dX4_leastOn_34 (by decide) ?_
      refine lv_idiv hx hb dX4_leastOn_36 (by decide) ?_
      refine lv_topi (fun x3_6 ex3_6 => ?_)
      replace h := pl_v h ex3_6
      refine lv_istore_n (lv' := [(3, .int x3_6), (2, .int x2_5), (0, .ref q_t), (4, .int x4)]) hx hb dX4_leastOn_37 rfl hl (by decide) rfl (fun ls hl => ?_)
      obtain ⟨x4_7, ex4_7, h⟩ := pl_ok h
      refine lv_iinc (v := x4_7) (lv' := [(4, .int x4_7), (3, .int x3_6), (2, .int x2_5), (0, .ref q_t)]) hx hb dX4_leastOn_38 hl (k := 3) rfl (by rw [ex4_7]; rfl) (by decide) rfl (fun ls hl => ?_)
      refine lv_goto (tgt := 13) hx hb dX4_leastOn_41 (by decide) ?_
      obtain rfl := sm1 h
      exact ih x2_5 x3_6 x4_7 hk H locs ls hP hD hS (lv_sub hl [3, 2, 1, 0] rfl)
set_option maxHeartbeats 4000000 in
set_option maxRecDepth 100000 in
theorem k_X4_leastOn {p : Program} {l : Launch} {e : Env} {s : State} {m : MethodId} {args : Array Value} {below : List Frame} {meth : Method} {c : Code} {Q : State → Prop} {A0 : Nat → Prop} {H0 : Heap} (C : CallFix p m c cX4_leastOn 5 s args wsX4_leastOn RX4) (G : GT) (hK : gK G s) (hA : ∀ q : Nat, H0.size ≤ q → A0 q) (q_t q_t_cells : Nat) (t_size : Int32) (t_cells : Nat → Int32) (a1 : Int32) (r : Int32) (h : f_X4_leastOn t_size t_cells a1 = some r) (KR : ∀ (H : Heap) (locs : List Loc) (ls : Array Slot) (pc : Nat), decode cX4_leastOn pc = .ok (.ireturn, 1) → va_P G.1 vwCl [(q_t, .inr (3, [.ref q_t_cells, .int t_size])), (q_t_cells, .inl (G.2 0, 49, .inl t_cells))] H → va_D A0 [(q_t, .inr (3, [.ref q_t_cells, .int t_size])), (q_t_cells, .inl (G.2 0, 49, .inl t_cells))] → va_S A0 H0 H locs → W p l e ({ frames := 2, cells := 0, slots := 0, locals := 60 } : Room) s m args below meth c H locs 0 0 Q (F0 m pc ls [.int r])) : ∀ (H : Heap) (locs : List Loc) (ls : Array Slot), va_P G.1 vwCl [(q_t, .inr (3, [.ref q_t_cells, .int t_size])), (q_t_cells, .inl (G.2 0, 49, .inl t_cells))] H → va_D A0 [(q_t, .inr (3, [.ref q_t_cells, .int t_size])), (q_t_cells, .inl (G.2 0, 49, .inl t_cells))] → va_S A0 H0 H locs → lv_has ls 5 [(0, .ref q_t), (1, .int a1)] → W p l e ({ frames := 2, cells := 0, slots := 0, locals := 60 } : Room) s m args below meth c H locs 0 0 Q (F0 m 0 ls []) := by
  obtain ⟨hx, hb, hml, hown, hts⟩ := C
  intro H locs ls hP hD hS hl
  rw [f_X4_leastOn] at h
  refine lv_bipush (v := 20) hx hb dX4_leastOn_0 (by decide) ?_
  refine lv_istore_n (lv' := [(2, .int (20 : Int32)), (0, .ref q_t), (1, .int a1)]) hx hb dX4_leastOn_2 rfl hl (by decide) rfl (fun ls hl => ?_)
  refine lv_iload_n hx hb dX4_leastOn_3 rfl (lv_at hl 2 rfl) ?_
  refine lv_istore_n (lv' := [(3, .int a1), (2, .int (20 : Int32)), (0, .ref q_t), (1, .int a1)]) hx hb dX4_leastOn_4 rfl hl (by decide) rfl (fun ls hl => ?_)
  refine lv_aload_n hx hb dX4_leastOn_5 rfl (lv_at hl 2 rfl) ?_
  refine va_get (D := G.1) (ci := 3) (v := .int t_size) (C := RX4) (T := TX4) (N := 2) hx hb hts wi_X4_leastOn_X4 hown hK hP 0 rfl rfl 1 (by decide) (hts _ wd_X4_leastOn_1) (fun _ h9 => h9) rfl dX4_leastOn_6 ?_
  refine lv_iconst (v := 1) hx hb dX4_leastOn_9 (by decide) ?_
  refine lv_isub hx hb dX4_leastOn_10 ?_
  refine lv_topi (fun x4_1 ex4_1 => ?_)
  replace h := pl_v h ex4_1
  refine lv_istore (lv' := [(4, .int x4_1), (3, .int a1), (2, .int (20 : Int32)), (0, .ref q_t), (1, .int a1)]) hx hb dX4_leastOn_11 hl (by decide) rfl (fun ls hl => ?_)
  obtain ⟨x2_8, hz_10, h⟩ := bd_ok h
  refine l_X4_leastOn_1 ⟨hx, hb, hml, hown, hts⟩ G hK hA q_t q_t_cells t_size t_cells x2_8 ?_ FU (20 : Int32) a1 x4_1 hz_10 H locs ls hP hD hS (lv_sub hl [3, 2, 1, 0] rfl)
  intro H locs ls hP hD hS hl
  refine lv_iload_n hx hb dX4_leastOn_44 rfl (lv_at hl 0 rfl) ?_
  obtain rfl := sm1 h
  exact KR H locs ls 45 dX4_leastOn_45 hP hD hS
set_option maxHeartbeats 4000000 in
set_option maxRecDepth 100000 in
theorem c_X4_leastOn (l : Launch) (G : GT) (q_t q_t_cells : Nat) (sz : Nat) (t_size : Int32) (t_cells : Nat → Int32) (a1 : Int32) (r : Int32) (h : f_X4_leastOn t_size t_cells a1 = some r) : Met l yX4_leastOn wsX4_leastOn ({ frames := 2, cells := 0, slots := 0, locals := 60 } : Room) (va_Pc [.ref q_t, .int a1] (pcW G [(q_t, .inr (3, [.ref q_t_cells, .int t_size])), (q_t_cells, .inl (G.2 0, 49, .inl t_cells))] sz)) (va_Qi (fun r9 (_ : Unit) => r9 = r) (fun _ t => atW G (va_A [(q_t, .inr (3, [.ref q_t_cells, .int t_size])), (q_t_cells, .inl (G.2 0, 49, .inl t_cells))] sz) [(q_t, .inr (3, [.ref q_t_cells, .int t_size])), (q_t_cells, .inl (G.2 0, 49, .inl t_cells))] t) (va_A [(q_t, .inr (3, [.ref q_t_cells, .int t_size])), (q_t_cells, .inl (G.2 0, 49, .inl t_cells))] sz)) 0 0 (va_A [(q_t, .inr (3, [.ref q_t_cells, .int t_size])), (q_t_cells, .inl (G.2 0, 49, .inl t_cells))] sz) := by
  refine Met.ofW (cc := cX4_leastOn) (maxL := 5) (ret := (some .int)) (by decide) rfl ?_
  intro p e s m args below meth c s₁ B hml hv
  obtain ⟨rfl, hsz, hP, hK, hD0⟩ := hv
  subst hsz
  have hD := hD0.self (sz := s.heap.size)
  generalize hAe : va_A [(q_t, .inr (3, [.ref q_t_cells, .int t_size])), (q_t_cells, .inl (G.2 0, 49, .inl t_cells))] s.heap.size = A at hD ⊢
  have hA : ∀ q : Nat, s.heap.size ≤ q → A q := fun q h => by rw [← hAe]; exact Or.inr h
  have hl := lv_entry ([.ref q_t, .int a1]) (n := 5) (Nat.le_of_ble_eq_true rfl)
  rw [lg_entry_eq]
  refine k_X4_leastOn ⟨B.exec, B.bytes, hml, findClass_of_methodNamed B.named, atoms_spec (ws := wsX4_leastOn) B.pre⟩ G hK hA q_t q_t_cells _ _ _ _ h ?_ _ _ _ hP hD va_S.rf hl
  intro H locs ls pc hd hP hD hS
  exact W.iret B.exec B.bytes B.returns (fun t ht hW => ⟨⟨r, (), rfl, rfl, by rw [ht]; exact hP, hD⟩, hS.F ht⟩) hS.2.2 hd B.notSynchronized
set_option maxRecDepth 20000 in
theorem wd_X4_sumOn_1 : Cond.fieldLink RX4 15 "PermanentDesk$Matrix" "size" "I" ∈ wsX4_sumOn := List.mem_of_getElem? (i := 1) (by decide +kernel)
set_option maxRecDepth 20000 in
theorem wi_X4_sumOn_X4 : ∀ w ∈ u_ws RX4 TX4 2, w ∈ wsX4_sumOn := by decide +kernel
def f_X4_sumOn_L1 (t_size : Int32) (t_cells : Nat → Int32) : (Int32 × Int32 × Int32) → Option ((Int32 × Int32 × Int32) ⊕ Int32)
  | (x2, x3, x4) =>
    if x4 < 0 then
      some (.inr x2)
    else
      (f_X4_at t_size t_cells x4 (x3 - x3 / (10 : Int32) * (10 : Int32))).bind (fun r_3 =>
      pl ((x2 + r_3) : Int32) (fun x2_5 =>
      pl ((x3 / (10 : Int32)) : Int32) (fun x3_6 =>
      pl ((x4 + (-1 : Int32)) : Int32) (fun x4_7 =>
      some (.inl (x2_5, x3_6, x4_7))))))
def f_X4_sumOn (t_size : Int32) (t_cells : Nat → Int32) (a1 : Int32) : Option Int32 :=
  pl ((t_size - (1 : Int32)) : Int32) (fun x4_1 =>
  (lpN (f_X4_sumOn_L1 t_size t_cells) FU ((0 : Int32), a1, x4_1)).bind (fun x2_8 =>
  some x2_8))
set_option maxHeartbeats 4000000 in
set_option maxRecDepth 100000 in
theorem l_X4_sumOn_1 {p : Program} {l : Launch} {e : Env} {s : State} {m : MethodId} {args : Array Value} {below : List Frame} {meth : Method} {c : Code} {Q : State → Prop} {A0 : Nat → Prop} {H0 : Heap} (C : CallFix p m c cX4_sumOn 5 s args wsX4_sumOn RX4) (G : GT) (hK : gK G s) (hA : ∀ q : Nat, H0.size ≤ q → A0 q) (q_t q_t_cells : Nat) (t_size : Int32) (t_cells : Nat → Int32) (E_x2 : Int32) (K : ∀ (H : Heap) (locs : List Loc) (ls : Array Slot), va_P G.1 vwCl [(q_t, .inr (3, [.ref q_t_cells, .int t_size])), (q_t_cells, .inl (G.2 0, 49, .inl t_cells))] H → va_D A0 [(q_t, .inr (3, [.ref q_t_cells, .int t_size])), (q_t_cells, .inl (G.2 0, 49, .inl t_cells))] → va_S A0 H0 H locs → lv_has ls 5 [(2, .int E_x2)] → W p l e ({ frames := 2, cells := 0, slots := 0, locals := 43 } : Room) s m args below meth c H locs 0 0 Q (F0 m 41 ls [])) : ∀ (n : Nat) (x2 : Int32) (x3 : Int32) (x4 : Int32), lpN (f_X4_sumOn_L1 t_size t_cells) n (x2, x3, x4) = some E_x2 → ∀ (H : Heap) (locs : List Loc) (ls : Array Slot), va_P G.1 vwCl [(q_t, .inr (3, [.ref q_t_cells, .int t_size])), (q_t_cells, .inl (G.2 0, 49, .inl t_cells))] H → va_D A0 [(q_t, .inr (3, [.ref q_t_cells, .int t_size])), (q_t_cells, .inl (G.2 0, 49, .inl t_cells))] → va_S A0 H0 H locs → lv_has ls 5 [(0, .ref q_t), (2, .int x2), (3, .int x3), (4, .int x4)] → W p l e ({ frames := 2, cells := 0, slots := 0, locals := 43 } : Room) s m args below meth c H locs 0 0 Q (F0 m 12 ls []) := by
  obtain ⟨hx, hb, hml, hown, hts⟩ := C
  intro n
  induction n with
  | zero => intro x2 x3 x4 h; exact absurd h (fun h => lp_0 h)
  | succ n ih =>
    intro x2 x3 x4 h H locs ls hP hD hS hl
    obtain ⟨y, h, hk⟩ := lp_s h
    rw [f_X4_sumOn_L1] at h
    refine lv_iload hx hb dX4_sumOn_12 (lv_at hl 3 rfl) ?_
    refine lv_if_lt (tgt := 41) hx hb dX4_sumOn_14 (by decide) (fun c_2 => ?_) (fun c_2 => ?_)
    · replace h := it_t h c_2
      obtain rfl := sm1 h
      obtain rfl := sm1 hk
      exact K H locs ls hP hD hS (lv_sub hl [1] rfl)
    · replace h := it_f h c_2
      refine lv_iload_n hx hb dX4_sumOn_17 rfl (lv_at hl 1 rfl) ?_
      refine lv_aload_n hx hb dX4_sumOn_18 rfl (lv_at hl 0 rfl) ?_
      refine lv_iload hx hb dX4_sumOn_19 (lv_at hl 3 rfl) ?_
      refine lv_iload_n hx hb dX4_sumOn_21 rfl (lv_at hl 2 rfl) ?_
      refine lv_bipush (v := 10) hx hb dX4_sumOn_22 (by decide) ?_
      refine lv_irem hx hb dX4_sumOn_24 (by decide) ?_
      obtain ⟨r_3, hf_4, h⟩ := bd_ok h
      refine ck_Vi (rest := [.int x2]) (wn := [(q_t, .inr (3, [.ref q_t_cells, .int t_size])), (q_t_cells, .inl (G.2 0, 49, .inl t_cells))]) ⟨hx, hb, hml, hown, hts⟩ hK hP hD hS hA [0, 1] [] [0, 1] (c_X4_at l G q_t q_t_cells _ t_size t_cells x4 (x3 - x3 / (10 : Int32) * (10 : Int32)) _ hf_4) (cwV 2 hts gX4_sumOn_X4_at rfl rfl rfl (by decide +kernel) ⟨Nat.le_of_ble_eq_true rfl, Nat.le_of_ble_eq_true rfl⟩) rfl rfl rfl rfl rfl rfl (by decide) rfl rfl rfl hl.1 rfl (Nat.le_of_ble_eq_true rfl) dX4_sumOn_25 ⟨Nat.zero_le _, Nat.zero_le _⟩ (fun H locs hP hD hS => ?_)
      refine lv_iadd hx hb dX4_sumOn_28 ?_
      refine lv_topi (fun x2_5 ex2_5 => ?_)
      replace h := pl_v h ex2_5
      refine lv_istore_n (lv' := [(2, .int x2_5), (0, .ref q_t), (3, .int x3), (4, .int x4)]) hx hb dX4_sumOn_29 rfl hl (by decide) rfl (fun ls hl => ?_)
      refine lv_iload_n hx hb dX4_sumOn_30 rfl (lv_at hl 2 rfl) ?_
      refine lv_bipush (v := 10) hx hb dX4_sumOn_31 (by decide) ?_
      refine lv_idiv hx hb dX4_sumOn_33 (by decide) ?_
      refine lv_topi (fun x3_6 ex3_6 => ?_)
      replace h := pl_v h ex3_6
      refine lv_istore_n (lv' := [(3, .int x3_6), (2, .int x2_5), (0, .ref q_t), (4, .int x4)]) hx hb dX4_sumOn_34 rfl hl (by decide) rfl (fun ls hl => ?_)
      obtain ⟨x4_7, ex4_7, h⟩ := pl_ok h
      refine lv_iinc (v := x4_7) (lv' := [(4, .int x4_7), (3, .int x3_6), (2, .int x2_5), (0, .ref q_t)]) hx hb dX4_sumOn_35 hl (k := 3) rfl (by rw [ex4_7]; rfl) (by decide) rfl (fun ls hl => ?_)
      refine lv_goto (tgt := 12) hx hb dX4_sumOn_38 (by decide) ?_
      obtain rfl := sm1 h
      exact ih x2_5 x3_6 x4_7 hk H locs ls hP hD hS (lv_sub hl [3, 2, 1, 0] rfl)
set_option maxHeartbeats 4000000 in
set_option maxRecDepth 100000 in
theorem k_X4_sumOn {p : Program} {l : Launch} {e : Env} {s : State} {m : MethodId} {args : Array Value} {below : List Frame} {meth : Method} {c : Code} {Q : State → Prop} {A0 : Nat → Prop} {H0 : Heap} (C : CallFix p m c cX4_sumOn 5 s args wsX4_sumOn RX4) (G : GT) (hK : gK G s) (hA : ∀ q : Nat, H0.size ≤ q → A0 q) (q_t q_t_cells : Nat) (t_size : Int32) (t_cells : Nat → Int32) (a1 : Int32) (r : Int32) (h : f_X4_sumOn t_size t_cells a1 = some r) (KR : ∀ (H : Heap) (locs : List Loc) (ls : Array Slot) (pc : Nat), decode cX4_sumOn pc = .ok (.ireturn, 1) → va_P G.1 vwCl [(q_t, .inr (3, [.ref q_t_cells, .int t_size])), (q_t_cells, .inl (G.2 0, 49, .inl t_cells))] H → va_D A0 [(q_t, .inr (3, [.ref q_t_cells, .int t_size])), (q_t_cells, .inl (G.2 0, 49, .inl t_cells))] → va_S A0 H0 H locs → W p l e ({ frames := 2, cells := 0, slots := 0, locals := 43 } : Room) s m args below meth c H locs 0 0 Q (F0 m pc ls [.int r])) : ∀ (H : Heap) (locs : List Loc) (ls : Array Slot), va_P G.1 vwCl [(q_t, .inr (3, [.ref q_t_cells, .int t_size])), (q_t_cells, .inl (G.2 0, 49, .inl t_cells))] H → va_D A0 [(q_t, .inr (3, [.ref q_t_cells, .int t_size])), (q_t_cells, .inl (G.2 0, 49, .inl t_cells))] → va_S A0 H0 H locs → lv_has ls 5 [(0, .ref q_t), (1, .int a1)] → W p l e ({ frames := 2, cells := 0, slots := 0, locals := 43 } : Room) s m args below meth c H locs 0 0 Q (F0 m 0 ls []) := by
  obtain ⟨hx, hb, hml, hown, hts⟩ := C
  intro H locs ls hP hD hS hl
  rw [f_X4_sumOn] at h
  refine lv_iconst (v := 0) hx hb dX4_sumOn_0 (by decide) ?_
  refine lv_istore_n (lv' := [(2, .int (0 : Int32)), (0, .ref q_t), (1, .int a1)]) hx hb dX4_sumOn_1 rfl hl (by decide) rfl (fun ls hl => ?_)
  refine lv_iload_n hx hb dX4_sumOn_2 rfl (lv_at hl 2 rfl) ?_
  refine lv_istore_n (lv' := [(3, .int a1), (2, .int (0 : Int32)), (0, .ref q_t), (1, .int a1)]) hx hb dX4_sumOn_3 rfl hl (by decide) rfl (fun ls hl => ?_)
  refine lv_aload_n hx hb dX4_sumOn_4 rfl (lv_at hl 2 rfl) ?_
  refine va_get (D := G.1) (ci := 3) (v := .int t_size) (C := RX4) (T := TX4) (N := 2) hx hb hts wi_X4_sumOn_X4 hown hK hP 0 rfl rfl 1 (by decide) (hts _ wd_X4_sumOn_1) (fun _ h9 => h9) rfl dX4_sumOn_5 ?_
  refine lv_iconst (v := 1) hx hb dX4_sumOn_8 (by decide) ?_
  refine lv_isub hx hb dX4_sumOn_9 ?_
  refine lv_topi (fun x4_1 ex4_1 => ?_)
  replace h := pl_v h ex4_1
  refine lv_istore (lv' := [(4, .int x4_1), (3, .int a1), (2, .int (0 : Int32)), (0, .ref q_t), (1, .int a1)]) hx hb dX4_sumOn_10 hl (by decide) rfl (fun ls hl => ?_)
  obtain ⟨x2_8, hz_10, h⟩ := bd_ok h
  refine l_X4_sumOn_1 ⟨hx, hb, hml, hown, hts⟩ G hK hA q_t q_t_cells t_size t_cells x2_8 ?_ FU (0 : Int32) a1 x4_1 hz_10 H locs ls hP hD hS (lv_sub hl [3, 2, 1, 0] rfl)
  intro H locs ls hP hD hS hl
  refine lv_iload_n hx hb dX4_sumOn_41 rfl (lv_at hl 0 rfl) ?_
  obtain rfl := sm1 h
  exact KR H locs ls 42 dX4_sumOn_42 hP hD hS
set_option maxHeartbeats 4000000 in
set_option maxRecDepth 100000 in
theorem c_X4_sumOn (l : Launch) (G : GT) (q_t q_t_cells : Nat) (sz : Nat) (t_size : Int32) (t_cells : Nat → Int32) (a1 : Int32) (r : Int32) (h : f_X4_sumOn t_size t_cells a1 = some r) : Met l yX4_sumOn wsX4_sumOn ({ frames := 2, cells := 0, slots := 0, locals := 43 } : Room) (va_Pc [.ref q_t, .int a1] (pcW G [(q_t, .inr (3, [.ref q_t_cells, .int t_size])), (q_t_cells, .inl (G.2 0, 49, .inl t_cells))] sz)) (va_Qi (fun r9 (_ : Unit) => r9 = r) (fun _ t => atW G (va_A [(q_t, .inr (3, [.ref q_t_cells, .int t_size])), (q_t_cells, .inl (G.2 0, 49, .inl t_cells))] sz) [(q_t, .inr (3, [.ref q_t_cells, .int t_size])), (q_t_cells, .inl (G.2 0, 49, .inl t_cells))] t) (va_A [(q_t, .inr (3, [.ref q_t_cells, .int t_size])), (q_t_cells, .inl (G.2 0, 49, .inl t_cells))] sz)) 0 0 (va_A [(q_t, .inr (3, [.ref q_t_cells, .int t_size])), (q_t_cells, .inl (G.2 0, 49, .inl t_cells))] sz) := by
  refine Met.ofW (cc := cX4_sumOn) (maxL := 5) (ret := (some .int)) (by decide) rfl ?_
  intro p e s m args below meth c s₁ B hml hv
  obtain ⟨rfl, hsz, hP, hK, hD0⟩ := hv
  subst hsz
  have hD := hD0.self (sz := s.heap.size)
  generalize hAe : va_A [(q_t, .inr (3, [.ref q_t_cells, .int t_size])), (q_t_cells, .inl (G.2 0, 49, .inl t_cells))] s.heap.size = A at hD ⊢
  have hA : ∀ q : Nat, s.heap.size ≤ q → A q := fun q h => by rw [← hAe]; exact Or.inr h
  have hl := lv_entry ([.ref q_t, .int a1]) (n := 5) (Nat.le_of_ble_eq_true rfl)
  rw [lg_entry_eq]
  refine k_X4_sumOn ⟨B.exec, B.bytes, hml, findClass_of_methodNamed B.named, atoms_spec (ws := wsX4_sumOn) B.pre⟩ G hK hA q_t q_t_cells _ _ _ _ h ?_ _ _ _ hP hD va_S.rf hl
  intro H locs ls pc hd hP hD hS
  exact W.iret B.exec B.bytes B.returns (fun t ht hW => ⟨⟨r, (), rfl, rfl, by rw [ht]; exact hP, hD⟩, hS.F ht⟩) hS.2.2 hd B.notSynchronized
set_option maxRecDepth 20000 in
theorem wd_X4_increaseOn_1 : Cond.fieldLink RX4 15 "PermanentDesk$Matrix" "size" "I" ∈ wsX4_increaseOn := List.mem_of_getElem? (i := 1) (by decide +kernel)
set_option maxRecDepth 20000 in
theorem wi_X4_increaseOn_X4 : ∀ w ∈ u_ws RX4 TX4 2, w ∈ wsX4_increaseOn := by decide +kernel
def f_X4_increaseOn_L1 (x2 : Int32) (t_size : Int32) : (Int32 × Int32 × (Nat → Int32)) → Option ((Int32 × Int32 × (Nat → Int32)) ⊕ (Nat → Int32))
  | (x3, x4, t_cells) =>
    if x4 < 0 then
      some (.inr t_cells)
    else
      pl ((x3 - x3 / (10 : Int32) * (10 : Int32)) : Int32) (fun x5_3 =>
      (f_X4_at t_size t_cells x4 x5_3).bind (fun r_4 =>
      (f_X4_put t_size t_cells x4 x5_3 (r_4 + x2)).bind (fun t_cells_6 =>
      pl ((x3 / (10 : Int32)) : Int32) (fun x3_8 =>
      pl ((x4 + (-1 : Int32)) : Int32) (fun x4_9 =>
      some (.inl (x3_8, x4_9, t_cells_6)))))))
def f_X4_increaseOn (t_size : Int32) (t_cells : Nat → Int32) (a1 : Int32) (a2 : Int32) : Option (Nat → Int32) :=
  pl ((t_size - (1 : Int32)) : Int32) (fun x4_1 =>
  (lpN (f_X4_increaseOn_L1 a2 t_size) FU (a1, x4_1, t_cells)).bind (fun t_cells_10 =>
  some t_cells_10))
set_option maxHeartbeats 4000000 in
set_option maxRecDepth 100000 in
theorem l_X4_increaseOn_1 {p : Program} {l : Launch} {e : Env} {s : State} {m : MethodId} {args : Array Value} {below : List Frame} {meth : Method} {c : Code} {Q : State → Prop} {A0 : Nat → Prop} {H0 : Heap} (C : CallFix p m c cX4_increaseOn 6 s args wsX4_increaseOn RX4) (G : GT) (hK : gK G s) (hA : ∀ q : Nat, H0.size ≤ q → A0 q) (q_t q_t_cells : Nat) (x2 : Int32) (t_size : Int32) (E_t_cells : Nat → Int32) (K : ∀ (H : Heap) (locs : List Loc) (ls : Array Slot), va_P G.1 vwCl [(q_t, .inr (3, [.ref q_t_cells, .int t_size])), (q_t_cells, .inl (G.2 0, 49, .inl E_t_cells))] H → va_D A0 [(q_t, .inr (3, [.ref q_t_cells, .int t_size])), (q_t_cells, .inl (G.2 0, 49, .inl E_t_cells))] → va_S A0 H0 H locs → lv_has ls 6 [] → W p l e ({ frames := 2, cells := 0, slots := 0, locals := 44 } : Room) s m args below meth c H locs 0 0 Q (F0 m 50 ls [])) : ∀ (n : Nat) (x3 : Int32) (x4 : Int32) (t_cells : Nat → Int32), lpN (f_X4_increaseOn_L1 x2 t_size) n (x3, x4, t_cells) = some E_t_cells → ∀ (H : Heap) (locs : List Loc) (ls : Array Slot), va_P G.1 vwCl [(q_t, .inr (3, [.ref q_t_cells, .int t_size])), (q_t_cells, .inl (G.2 0, 49, .inl t_cells))] H → va_D A0 [(q_t, .inr (3, [.ref q_t_cells, .int t_size])), (q_t_cells, .inl (G.2 0, 49, .inl t_cells))] → va_S A0 H0 H locs → lv_has ls 6 [(0, .ref q_t), (2, .int x2), (3, .int x3), (4, .int x4)] → W p l e ({ frames := 2, cells := 0, slots := 0, locals := 44 } : Room) s m args below meth c H locs 0 0 Q (F0 m 10 ls []) := by
  obtain ⟨hx, hb, hml, hown, hts⟩ := C
  intro n
  induction n with
  | zero => intro x3 x4 t_cells h; exact absurd h (fun h => lp_0 h)
  | succ n ih =>
    intro x3 x4 t_cells h H locs ls hP hD hS hl
    obtain ⟨y, h, hk⟩ := lp_s h
    rw [f_X4_increaseOn_L1] at h
    refine lv_iload hx hb dX4_increaseOn_10 (lv_at hl 3 rfl) ?_
    refine lv_if_lt (tgt := 50) hx hb dX4_increaseOn_12 (by decide) (fun c_2 => ?_) (fun c_2 => ?_)
    · replace h := it_t h c_2
      obtain rfl := sm1 h
      obtain rfl := sm1 hk
      exact K H locs ls hP hD hS (lv_sub hl [] rfl)
    · replace h := it_f h c_2
      refine lv_iload_n hx hb dX4_increaseOn_15 rfl (lv_at hl 2 rfl) ?_
      refine lv_bipush (v := 10) hx hb dX4_increaseOn_16 (by decide) ?_
      refine lv_irem hx hb dX4_increaseOn_18 (by decide) ?_
      refine lv_topi (fun x5_3 ex5_3 => ?_)
      replace h := pl_v h ex5_3
      refine lv_istore (lv' := [(5, .int x5_3), (0, .ref q_t), (2, .int x2), (3, .int x3), (4, .int x4)]) hx hb dX4_increaseOn_19 hl (by decide) rfl (fun ls hl => ?_)
      refine lv_aload_n hx hb dX4_increaseOn_21 rfl (lv_at hl 1 rfl) ?_
      refine lv_iload hx hb dX4_increaseOn_22 (lv_at hl 4 rfl) ?_
      refine lv_iload hx hb dX4_increaseOn_24 (lv_at hl 0 rfl) ?_
      refine lv_aload_n hx hb dX4_increaseOn_26 rfl (lv_at hl 1 rfl) ?_
      refine lv_iload hx hb dX4_increaseOn_27 (lv_at hl 4 rfl) ?_
      refine lv_iload hx hb dX4_increaseOn_29 (lv_at hl 0 rfl) ?_
      obtain ⟨r_4, hf_5, h⟩ := bd_ok h
      refine ck_Vi (rest := [.int x5_3, .int x4, .ref q_t]) (wn := [(q_t, .inr (3, [.ref q_t_cells, .int t_size])), (q_t_cells, .inl (G.2 0, 49, .inl t_cells))]) ⟨hx, hb, hml, hown, hts⟩ hK hP hD hS hA [0, 1] [] [0, 1] (c_X4_at l G q_t q_t_cells _ t_size t_cells x4 x5_3 _ hf_5) (cwV 2 hts gX4_increaseOn_X4_at rfl rfl rfl (by decide +kernel) ⟨Nat.le_of_ble_eq_true rfl, Nat.le_of_ble_eq_true rfl⟩) rfl rfl rfl rfl rfl rfl (by decide) rfl rfl rfl hl.1 rfl (Nat.le_of_ble_eq_true rfl) dX4_increaseOn_31 ⟨Nat.zero_le _, Nat.zero_le _⟩ (fun H locs hP hD hS => ?_)
      refine lv_iload_n hx hb dX4_increaseOn_34 rfl (lv_at hl 2 rfl) ?_
      refine lv_iadd hx hb dX4_increaseOn_35 ?_
      obtain ⟨t_cells_6, hf_7, h⟩ := bd_ok h
      refine ck_Vv (rest := []) (wn := [(q_t, .inr (3, [.ref q_t_cells, .int t_size])), (q_t_cells, .inl (G.2 0, 49, .inl t_cells_6))]) ⟨hx, hb, hml, hown, hts⟩ hK hP hD hS hA [0, 1] [] [0, 1] (c_X4_put l G q_t q_t_cells _ t_size t_cells x4 x5_3 (r_4 + x2) _ hf_7) (cwV 3 hts gX4_increaseOn_X4_put rfl rfl rfl (by decide +kernel) ⟨Nat.le_of_ble_eq_true rfl, Nat.le_of_ble_eq_true rfl⟩) rfl rfl rfl rfl rfl rfl (by decide) rfl rfl rfl hl.1 rfl (Nat.le_of_ble_eq_true rfl) dX4_increaseOn_36 ⟨Nat.zero_le _, Nat.zero_le _⟩ (fun H locs hP hD hS => ?_)
      refine lv_iload_n hx hb dX4_increaseOn_39 rfl (lv_at hl 3 rfl) ?_
      refine lv_bipush (v := 10) hx hb dX4_increaseOn_40 (by decide) ?_
      refine lv_idiv hx hb dX4_increaseOn_42 (by decide) ?_
      refine lv_topi (fun x3_8 ex3_8 => ?_)
      replace h := pl_v h ex3_8
      refine lv_istore_n (lv' := [(3, .int x3_8), (5, .int x5_3), (0, .ref q_t), (2, .int x2), (4, .int x4)]) hx hb dX4_increaseOn_43 rfl hl (by decide) rfl (fun ls hl => ?_)
      obtain ⟨x4_9, ex4_9, h⟩ := pl_ok h
      refine lv_iinc (v := x4_9) (lv' := [(4, .int x4_9), (3, .int x3_8), (5, .int x5_3), (0, .ref q_t), (2, .int x2)]) hx hb dX4_increaseOn_44 hl (k := 4) rfl (by rw [ex4_9]; rfl) (by decide) rfl (fun ls hl => ?_)
      refine lv_goto (tgt := 10) hx hb dX4_increaseOn_47 (by decide) ?_
      obtain rfl := sm1 h
      exact ih x3_8 x4_9 t_cells_6 hk H locs ls hP hD hS (lv_sub hl [3, 4, 1, 0] rfl)
set_option maxHeartbeats 4000000 in
set_option maxRecDepth 100000 in
theorem k_X4_increaseOn {p : Program} {l : Launch} {e : Env} {s : State} {m : MethodId} {args : Array Value} {below : List Frame} {meth : Method} {c : Code} {Q : State → Prop} {A0 : Nat → Prop} {H0 : Heap} (C : CallFix p m c cX4_increaseOn 6 s args wsX4_increaseOn RX4) (G : GT) (hK : gK G s) (hA : ∀ q : Nat, H0.size ≤ q → A0 q) (q_t q_t_cells : Nat) (t_size : Int32) (t_cells : Nat → Int32) (a1 : Int32) (a2 : Int32) (o_t_cells : Nat → Int32) (h : f_X4_increaseOn t_size t_cells a1 a2 = some o_t_cells) (KR : ∀ (H : Heap) (locs : List Loc) (ls : Array Slot) (pc : Nat), decode cX4_increaseOn pc = .ok (.return_, 1) → va_P G.1 vwCl [(q_t, .inr (3, [.ref q_t_cells, .int t_size])), (q_t_cells, .inl (G.2 0, 49, .inl o_t_cells))] H → va_D A0 [(q_t, .inr (3, [.ref q_t_cells, .int t_size])), (q_t_cells, .inl (G.2 0, 49, .inl o_t_cells))] → va_S A0 H0 H locs → W p l e ({ frames := 2, cells := 0, slots := 0, locals := 44 } : Room) s m args below meth c H locs 0 0 Q (F0 m pc ls [])) : ∀ (H : Heap) (locs : List Loc) (ls : Array Slot), va_P G.1 vwCl [(q_t, .inr (3, [.ref q_t_cells, .int t_size])), (q_t_cells, .inl (G.2 0, 49, .inl t_cells))] H → va_D A0 [(q_t, .inr (3, [.ref q_t_cells, .int t_size])), (q_t_cells, .inl (G.2 0, 49, .inl t_cells))] → va_S A0 H0 H locs → lv_has ls 6 [(0, .ref q_t), (1, .int a1), (2, .int a2)] → W p l e ({ frames := 2, cells := 0, slots := 0, locals := 44 } : Room) s m args below meth c H locs 0 0 Q (F0 m 0 ls []) := by
  obtain ⟨hx, hb, hml, hown, hts⟩ := C
  intro H locs ls hP hD hS hl
  rw [f_X4_increaseOn] at h
  refine lv_iload_n hx hb dX4_increaseOn_0 rfl (lv_at hl 1 rfl) ?_
  refine lv_istore_n (lv' := [(3, .int a1), (0, .ref q_t), (1, .int a1), (2, .int a2)]) hx hb dX4_increaseOn_1 rfl hl (by decide) rfl (fun ls hl => ?_)
  refine lv_aload_n hx hb dX4_increaseOn_2 rfl (lv_at hl 1 rfl) ?_
  refine va_get (D := G.1) (ci := 3) (v := .int t_size) (C := RX4) (T := TX4) (N := 2) hx hb hts wi_X4_increaseOn_X4 hown hK hP 0 rfl rfl 1 (by decide) (hts _ wd_X4_increaseOn_1) (fun _ h9 => h9) rfl dX4_increaseOn_3 ?_
  refine lv_iconst (v := 1) hx hb dX4_increaseOn_6 (by decide) ?_
  refine lv_isub hx hb dX4_increaseOn_7 ?_
  refine lv_topi (fun x4_1 ex4_1 => ?_)
  replace h := pl_v h ex4_1
  refine lv_istore (lv' := [(4, .int x4_1), (3, .int a1), (0, .ref q_t), (1, .int a1), (2, .int a2)]) hx hb dX4_increaseOn_8 hl (by decide) rfl (fun ls hl => ?_)
  obtain ⟨t_cells_10, hz_12, h⟩ := bd_ok h
  refine l_X4_increaseOn_1 ⟨hx, hb, hml, hown, hts⟩ G hK hA q_t q_t_cells a2 t_size t_cells_10 ?_ FU a1 x4_1 t_cells hz_12 H locs ls hP hD hS (lv_sub hl [2, 4, 1, 0] rfl)
  intro H locs ls hP hD hS hl
  obtain rfl := sm1 h
  exact KR H locs ls 50 dX4_increaseOn_50 hP hD hS
set_option maxHeartbeats 4000000 in
set_option maxRecDepth 100000 in
theorem c_X4_increaseOn (l : Launch) (G : GT) (q_t q_t_cells : Nat) (sz : Nat) (t_size : Int32) (t_cells : Nat → Int32) (a1 : Int32) (a2 : Int32) (o_t_cells : Nat → Int32) (h : f_X4_increaseOn t_size t_cells a1 a2 = some o_t_cells) : Met l yX4_increaseOn wsX4_increaseOn ({ frames := 2, cells := 0, slots := 0, locals := 44 } : Room) (va_Pc [.ref q_t, .int a1, .int a2] (pcW G [(q_t, .inr (3, [.ref q_t_cells, .int t_size])), (q_t_cells, .inl (G.2 0, 49, .inl t_cells))] sz)) (va_Qv (fun (_ : Unit) => True) (fun _ t => atW G (va_A [(q_t, .inr (3, [.ref q_t_cells, .int t_size])), (q_t_cells, .inl (G.2 0, 49, .inl t_cells))] sz) [(q_t, .inr (3, [.ref q_t_cells, .int t_size])), (q_t_cells, .inl (G.2 0, 49, .inl o_t_cells))] t) (va_A [(q_t, .inr (3, [.ref q_t_cells, .int t_size])), (q_t_cells, .inl (G.2 0, 49, .inl t_cells))] sz)) 0 0 (va_A [(q_t, .inr (3, [.ref q_t_cells, .int t_size])), (q_t_cells, .inl (G.2 0, 49, .inl t_cells))] sz) := by
  refine Met.ofW (cc := cX4_increaseOn) (maxL := 6) (ret := none) (by decide) rfl ?_
  intro p e s m args below meth c s₁ B hml hv
  obtain ⟨rfl, hsz, hP, hK, hD0⟩ := hv
  subst hsz
  have hD := hD0.self (sz := s.heap.size)
  generalize hAe : va_A [(q_t, .inr (3, [.ref q_t_cells, .int t_size])), (q_t_cells, .inl (G.2 0, 49, .inl t_cells))] s.heap.size = A at hD ⊢
  have hA : ∀ q : Nat, s.heap.size ≤ q → A q := fun q h => by rw [← hAe]; exact Or.inr h
  have hl := lv_entry ([.ref q_t, .int a1, .int a2]) (n := 6) (Nat.le_of_ble_eq_true rfl)
  rw [lg_entry_eq]
  refine k_X4_increaseOn ⟨B.exec, B.bytes, hml, findClass_of_methodNamed B.named, atoms_spec (ws := wsX4_increaseOn) B.pre⟩ G hK hA q_t q_t_cells _ _ _ _ _ h ?_ _ _ _ hP hD va_S.rf hl
  intro H locs ls pc hd hP hD hS
  exact W.vret B.exec B.bytes B.returns (fun t ht hW => ⟨⟨(), rfl, trivial, by rw [ht]; exact hP, hD⟩, hS.F ht⟩) hS.2.2 hd B.notSynchronized
