def f_X10_take_L1 (n_a2 : Nat) (x0 : Int32) : (Int32 × Int32 × (Nat → Int32)) → Option ((Int32 × Int32 × (Nat → Int32)) ⊕ (Int32 × (Nat → Int32)))
  | (x2, x3, a2) =>
    if (7 : Int32) ≤ x3 then
      some (.inr (x2, a2))
    else
      if ((x0 >>> (x3 &&& 31)) &&& (1 : Int32)) = (1 : Int32) then
        gd (okI x2 n_a2) (
        pl ((upd a2 x2.toNatClampNeg x3) : Nat → Int32) (fun a2_5 =>
        pl ((x2 + (1 : Int32)) : Int32) (fun x2_6 =>
        pl ((x3 + (1 : Int32)) : Int32) (fun x3_7 =>
        some (.inl (x2_6, x3_7, a2_5))))))
      else
        pl ((x3 + (1 : Int32)) : Int32) (fun x3_3 =>
        some (.inl (x2, x3_3, a2)))
def f_X10_take (n_a2 : Nat) (a2 : Nat → Int32) (a1 : Int32) : Option (Int32 × (Nat → Int32)) :=
  (lpN (f_X10_take_L1 n_a2 a1) FU ((0 : Int32), (0 : Int32), a2)).bind (fun (x2_8, a2_9) =>
  some (x2_8, a2_9))
set_option maxHeartbeats 4000000 in
set_option maxRecDepth 100000 in
theorem l_X10_take_1 {p : Program} {l : Launch} {e : Env} {s : State} {m : MethodId} {args : Array Value} {below : List Frame} {meth : Method} {c : Code} {Q : State → Prop} {A0 : Nat → Prop} {H0 : Heap} (C : CallFix p m c cX10_take 4 s args wsX10_take RX10) (G : GT) (hK : gK G s) (hA : ∀ q : Nat, H0.size ≤ q → A0 q) (q_a2 : Nat) (n_a2 : Nat) (x0 : Int32) (E_x2 : Int32) (E_a2 : Nat → Int32) (K : ∀ (H : Heap) (locs : List Loc) (ls : Array Slot), va_P G.1 vwCl [(q_a2, .inl (G.2 0, n_a2, .inl E_a2))] H → va_D A0 [(q_a2, .inl (G.2 0, n_a2, .inl E_a2))] → va_S A0 H0 H locs → lv_has ls 4 [(2, .int E_x2)] → W p l e ({ frames := 0, cells := 0, slots := 0, locals := 0 } : Room) s m args below meth c H locs 0 0 Q (F0 m 32 ls [])) : ∀ (n : Nat) (x2 : Int32) (x3 : Int32) (a2 : Nat → Int32), lpN (f_X10_take_L1 n_a2 x0) n (x2, x3, a2) = some (E_x2, E_a2) → ∀ (H : Heap) (locs : List Loc) (ls : Array Slot), va_P G.1 vwCl [(q_a2, .inl (G.2 0, n_a2, .inl a2))] H → va_D A0 [(q_a2, .inl (G.2 0, n_a2, .inl a2))] → va_S A0 H0 H locs → lv_has ls 4 [(0, .int x0), (1, .ref q_a2), (2, .int x2), (3, .int x3)] → W p l e ({ frames := 0, cells := 0, slots := 0, locals := 0 } : Room) s m args below meth c H locs 0 0 Q (F0 m 4 ls []) := by
  obtain ⟨hx, hb, hml, hown, hts⟩ := C
  intro n
  induction n with
  | zero => intro x2 x3 a2 h; exact absurd h (fun h => lp_0 h)
  | succ n ih =>
    intro x2 x3 a2 h H locs ls hP hD hS hl
    obtain ⟨y, h, hk⟩ := lp_s h
    rw [f_X10_take_L1] at h
    refine lv_iload_n hx hb dX10_take_4 rfl (lv_at hl 3 rfl) ?_
    refine lv_bipush (v := 7) hx hb dX10_take_5 (by decide) ?_
    refine lv_icmp_ge (tgt := 32) hx hb dX10_take_7 (by decide) (fun c_1 => ?_) (fun c_1 => ?_)
    · replace h := it_t h c_1
      obtain rfl := sm1 h
      obtain ⟨rfl, rfl⟩ := sm2 hk
      exact K H locs ls hP hD hS (lv_sub hl [2] rfl)
    · replace h := it_f h c_1
      refine lv_iload_n hx hb dX10_take_10 rfl (lv_at hl 0 rfl) ?_
      refine lv_iload_n hx hb dX10_take_11 rfl (lv_at hl 3 rfl) ?_
      refine lv_ishr hx hb dX10_take_12 ?_
      refine lv_iconst (v := 1) hx hb dX10_take_13 (by decide) ?_
      refine lv_iand hx hb dX10_take_14 ?_
      refine lv_iconst (v := 1) hx hb dX10_take_15 (by decide) ?_
      refine lv_icmp_ne (tgt := 26) hx hb dX10_take_16 (by decide) (fun c_2 => ?_) (fun c_2 => ?_)
      · replace h := it_f h c_2
        obtain ⟨x3_3, ex3_3, h⟩ := pl_ok h
        refine lv_iinc (v := x3_3) (lv' := [(3, .int x3_3), (0, .int x0), (1, .ref q_a2), (2, .int x2)]) hx hb dX10_take_26 hl (k := 3) rfl (by rw [ex3_3]; rfl) (by decide) rfl (fun ls hl => ?_)
        refine lv_goto (tgt := 4) hx hb dX10_take_29 (by decide) ?_
        obtain rfl := sm1 h
        exact ih x2 x3_3 a2 hk H locs ls hP hD hS (lv_sub hl [1, 2, 3, 0] rfl)
      · replace h := it_t h c_2
        refine lv_aload_n hx hb dX10_take_19 rfl (lv_at hl 1 rfl) ?_
        refine lv_iload_n hx hb dX10_take_20 rfl (lv_at hl 2 rfl) ?_
        refine lv_iload_n hx hb dX10_take_21 rfl (lv_at hl 3 rfl) ?_
        obtain ⟨g_4, h⟩ := gd_ok h
        obtain ⟨a2_5, ea2_5, h⟩ := pl_ok h
        refine st_i (D := G.1) (wn := [(q_a2, .inl (G.2 0, n_a2, .inl a2_5))]) hx hb hK hP hD hS 0 0 rfl rfl g_4 dX10_take_22 ea2_5 rfl (fun H locs hP hD hS => ?_)
        obtain ⟨x2_6, ex2_6, h⟩ := pl_ok h
        refine lv_iinc (v := x2_6) (lv' := [(2, .int x2_6), (0, .int x0), (1, .ref q_a2), (3, .int x3)]) hx hb dX10_take_23 hl (k := 2) rfl (by rw [ex2_6]; rfl) (by decide) rfl (fun ls hl => ?_)
        obtain ⟨x3_7, ex3_7, h⟩ := pl_ok h
        refine lv_iinc (v := x3_7) (lv' := [(3, .int x3_7), (2, .int x2_6), (0, .int x0), (1, .ref q_a2)]) hx hb dX10_take_26 hl (k := 3) rfl (by rw [ex3_7]; rfl) (by decide) rfl (fun ls hl => ?_)
        refine lv_goto (tgt := 4) hx hb dX10_take_29 (by decide) ?_
        obtain rfl := sm1 h
        exact ih x2_6 x3_7 a2_5 hk H locs ls hP hD hS (lv_sub hl [2, 3, 1, 0] rfl)
set_option maxHeartbeats 4000000 in
set_option maxRecDepth 100000 in
theorem k_X10_take {p : Program} {l : Launch} {e : Env} {s : State} {m : MethodId} {args : Array Value} {below : List Frame} {meth : Method} {c : Code} {Q : State → Prop} {A0 : Nat → Prop} {H0 : Heap} (C : CallFix p m c cX10_take 4 s args wsX10_take RX10) (G : GT) (hK : gK G s) (hA : ∀ q : Nat, H0.size ≤ q → A0 q) (q_a2 : Nat) (n_a2 : Nat) (a2 : Nat → Int32) (a1 : Int32) (r : Int32) (o_a2 : Nat → Int32) (h : f_X10_take n_a2 a2 a1 = some (r, o_a2)) (KR : ∀ (H : Heap) (locs : List Loc) (ls : Array Slot) (pc : Nat), decode cX10_take pc = .ok (.ireturn, 1) → va_P G.1 vwCl [(q_a2, .inl (G.2 0, n_a2, .inl o_a2))] H → va_D A0 [(q_a2, .inl (G.2 0, n_a2, .inl o_a2))] → va_S A0 H0 H locs → W p l e ({ frames := 0, cells := 0, slots := 0, locals := 0 } : Room) s m args below meth c H locs 0 0 Q (F0 m pc ls [.int r])) : ∀ (H : Heap) (locs : List Loc) (ls : Array Slot), va_P G.1 vwCl [(q_a2, .inl (G.2 0, n_a2, .inl a2))] H → va_D A0 [(q_a2, .inl (G.2 0, n_a2, .inl a2))] → va_S A0 H0 H locs → lv_has ls 4 [(0, .int a1), (1, .ref q_a2)] → W p l e ({ frames := 0, cells := 0, slots := 0, locals := 0 } : Room) s m args below meth c H locs 0 0 Q (F0 m 0 ls []) := by
  obtain ⟨hx, hb, hml, hown, hts⟩ := C
  intro H locs ls hP hD hS hl
  rw [f_X10_take] at h
  refine lv_iconst (v := 0) hx hb dX10_take_0 (by decide) ?_
  refine lv_istore_n (lv' := [(2, .int (0 : Int32)), (0, .int a1), (1, .ref q_a2)]) hx hb dX10_take_1 rfl hl (by decide) rfl (fun ls hl => ?_)
  refine lv_iconst (v := 0) hx hb dX10_take_2 (by decide) ?_
  refine lv_istore_n (lv' := [(3, .int (0 : Int32)), (2, .int (0 : Int32)), (0, .int a1), (1, .ref q_a2)]) hx hb dX10_take_3 rfl hl (by decide) rfl (fun ls hl => ?_)
  obtain ⟨⟨x2_8, a2_9⟩, hz_11, h⟩ := bd_ok h
  refine l_X10_take_1 ⟨hx, hb, hml, hown, hts⟩ G hK hA q_a2 n_a2 a1 x2_8 a2_9 ?_ FU (0 : Int32) (0 : Int32) a2 hz_11 H locs ls hP hD hS (lv_sub hl [2, 3, 1, 0] rfl)
  intro H locs ls hP hD hS hl
  refine lv_iload_n hx hb dX10_take_32 rfl (lv_at hl 0 rfl) ?_
  obtain ⟨rfl, rfl⟩ := sm2 h
  exact KR H locs ls 33 dX10_take_33 hP hD hS
set_option maxHeartbeats 4000000 in
set_option maxRecDepth 100000 in
theorem c_X10_take (l : Launch) (G : GT) (q_a2 : Nat) (sz : Nat) (n_a2 : Nat) (a2 : Nat → Int32) (a1 : Int32) (r : Int32) (o_a2 : Nat → Int32) (h : f_X10_take n_a2 a2 a1 = some (r, o_a2)) : Met l yX10_take wsX10_take ({ frames := 0, cells := 0, slots := 0, locals := 0 } : Room) (va_Pc [.int a1, .ref q_a2] (pcW G [(q_a2, .inl (G.2 0, n_a2, .inl a2))] sz)) (va_Qi (fun r9 (_ : Unit) => r9 = r) (fun _ t => atW G (va_A [(q_a2, .inl (G.2 0, n_a2, .inl a2))] sz) [(q_a2, .inl (G.2 0, n_a2, .inl o_a2))] t) (va_A [(q_a2, .inl (G.2 0, n_a2, .inl a2))] sz)) 0 0 (va_A [(q_a2, .inl (G.2 0, n_a2, .inl a2))] sz) := by
  refine Met.ofW (cc := cX10_take) (maxL := 4) (ret := (some .int)) (by decide) rfl ?_
  intro p e s m args below meth c s₁ B hml hv
  obtain ⟨rfl, hsz, hP, hK, hD0⟩ := hv
  subst hsz
  have hD := hD0.self (sz := s.heap.size)
  generalize hAe : va_A [(q_a2, .inl (G.2 0, n_a2, .inl a2))] s.heap.size = A at hD ⊢
  have hA : ∀ q : Nat, s.heap.size ≤ q → A q := fun q h => by rw [← hAe]; exact Or.inr h
  have hl := lv_entry ([.int a1, .ref q_a2]) (n := 4) (Nat.le_of_ble_eq_true rfl)
  rw [lg_entry_eq]
  refine k_X10_take ⟨B.exec, B.bytes, hml, findClass_of_methodNamed B.named, atoms_spec (ws := wsX10_take) B.pre⟩ G hK hA q_a2 _ _ _ _ _ h ?_ _ _ _ hP hD va_S.rf hl
  intro H locs ls pc hd hP hD hS
  exact W.iret B.exec B.bytes B.returns (fun t ht hW => ⟨⟨r, (), rfl, rfl, by rw [ht]; exact hP, hD⟩, hS.F ht⟩) hS.2.2 hd B.notSynchronized
set_option maxRecDepth 20000 in
theorem wd_X10_product_1 : Cond.fieldLink RX10 31 "PermanentDeskModel" "rowsTaken" "[I" ∈ wsX10_product := List.mem_of_getElem? (i := 1) (by decide +kernel)
set_option maxRecDepth 20000 in
theorem wi_X10_product_X10 : ∀ w ∈ u_ws RX10 TX10 21, w ∈ wsX10_product := by decide +kernel
set_option maxRecDepth 20000 in
theorem wd_X10_product_2 : Cond.fieldLink RX10 34 "PermanentDeskModel" "columnsTaken" "[I" ∈ wsX10_product := List.mem_of_getElem? (i := 2) (by decide +kernel)
set_option maxRecDepth 20000 in
theorem wd_X10_product_3 : Cond.fieldLink RX10 25 "PermanentDeskModel" "order" "[I" ∈ wsX10_product := List.mem_of_getElem? (i := 3) (by decide +kernel)
def f_X10_product_L1 (x1 : Int32) (t_z : Nat → Int32) (t_order : Nat → Int32) (t_rowsTaken : Nat → Int32) (t_columnsTaken : Nat → Int32) : (Int64 × Int32) → Option ((Int64 × Int32) ⊕ Int64)
  | (x2, x4) =>
    if x1 ≤ x4 then
      some (.inr x2)
    else
      gd (okI x4 7) (
      gd (okI x4 7) (
      gd (okI (t_order x4.toNatClampNeg) 7) (
      (f_X10_at t_z (t_rowsTaken x4.toNatClampNeg) (t_columnsTaken (t_order x4.toNatClampNeg).toNatClampNeg)).bind (fun r_5 =>
      pl ((x2 * r_5.toInt64) : Int64) (fun x2_7 =>
      pl ((x4 + (1 : Int32)) : Int32) (fun x4_8 =>
      some (.inl (x2_7, x4_8))))))))
def f_X10_product (t_z : Nat → Int32) (t_order : Nat → Int32) (t_rowsTaken : Nat → Int32) (t_columnsTaken : Nat → Int32) (a1 : Int32) : Option Int64 :=
  (lpN (f_X10_product_L1 a1 t_z t_order t_rowsTaken t_columnsTaken) FU ((1 : Int64), (0 : Int32))).bind (fun x2_9 =>
  some x2_9)
set_option maxHeartbeats 4000000 in
set_option maxRecDepth 100000 in
theorem l_X10_product_1 {p : Program} {l : Launch} {e : Env} {s : State} {m : MethodId} {args : Array Value} {below : List Frame} {meth : Method} {c : Code} {Q : State → Prop} {A0 : Nat → Prop} {H0 : Heap} (C : CallFix p m c cX10_product 5 s args wsX10_product RX10) (G : GT) (hK : gK G s) (hA : ∀ q : Nat, H0.size ≤ q → A0 q) (q_t q_t_z q_t_old q_t_past q_t_kept q_t_text q_t_order q_t_told q_t_rowsTaken q_t_columnsTaken q_t_ways q_t_scaled q_t_rowFactors q_t_columnFactors q_t_rest q_t_diagonals q_t_weights : Nat) (x1 : Int32) (t_states : Int32) (t_isKept : Int32) (t_length : Int32) (t_spot : Int32) (t_toldRows : Int32) (t_z : Nat → Int32) (t_order : Nat → Int32) (t_rowsTaken : Nat → Int32) (t_columnsTaken : Nat → Int32) (E_x2 : Int64) (K : ∀ (H : Heap) (locs : List Loc) (ls : Array Slot), va_P G.1 vwCl [(q_t, .inr (9, [.ref q_t_z, .ref q_t_old, .ref q_t_past, .int t_states, .ref q_t_kept, .int t_isKept, .ref q_t_text, .int t_length, .ref q_t_order, .ref q_t_told, .int t_spot, .int t_toldRows, .ref q_t_rowsTaken, .ref q_t_columnsTaken, .ref q_t_ways, .ref q_t_scaled, .ref q_t_rowFactors, .ref q_t_columnFactors, .ref q_t_rest, .ref q_t_diagonals, .ref q_t_weights])), (q_t_z, .inl (G.2 0, 50, .inl t_z)), (q_t_order, .inl (G.2 0, 7, .inl t_order)), (q_t_rowsTaken, .inl (G.2 0, 7, .inl t_rowsTaken)), (q_t_columnsTaken, .inl (G.2 0, 7, .inl t_columnsTaken))] H → va_D A0 [(q_t, .inr (9, [.ref q_t_z, .ref q_t_old, .ref q_t_past, .int t_states, .ref q_t_kept, .int t_isKept, .ref q_t_text, .int t_length, .ref q_t_order, .ref q_t_told, .int t_spot, .int t_toldRows, .ref q_t_rowsTaken, .ref q_t_columnsTaken, .ref q_t_ways, .ref q_t_scaled, .ref q_t_rowFactors, .ref q_t_columnFactors, .ref q_t_rest, .ref q_t_diagonals, .ref q_t_weights])), (q_t_z, .inl (G.2 0, 50, .inl t_z)), (q_t_order, .inl (G.2 0, 7, .inl t_order)), (q_t_rowsTaken, .inl (G.2 0, 7, .inl t_rowsTaken)), (q_t_columnsTaken, .inl (G.2 0, 7, .inl t_columnsTaken))] → va_S A0 H0 H locs → lv_has ls 5 [(2, .long E_x2)] → W p l e ({ frames := 1, cells := 0, slots := 0, locals := 22 } : Room) s m args below meth c H locs 0 0 Q (F0 m 44 ls [])) : ∀ (n : Nat) (x2 : Int64) (x4 : Int32), lpN (f_X10_product_L1 x1 t_z t_order t_rowsTaken t_columnsTaken) n (x2, x4) = some E_x2 → ∀ (H : Heap) (locs : List Loc) (ls : Array Slot), va_P G.1 vwCl [(q_t, .inr (9, [.ref q_t_z, .ref q_t_old, .ref q_t_past, .int t_states, .ref q_t_kept, .int t_isKept, .ref q_t_text, .int t_length, .ref q_t_order, .ref q_t_told, .int t_spot, .int t_toldRows, .ref q_t_rowsTaken, .ref q_t_columnsTaken, .ref q_t_ways, .ref q_t_scaled, .ref q_t_rowFactors, .ref q_t_columnFactors, .ref q_t_rest, .ref q_t_diagonals, .ref q_t_weights])), (q_t_z, .inl (G.2 0, 50, .inl t_z)), (q_t_order, .inl (G.2 0, 7, .inl t_order)), (q_t_rowsTaken, .inl (G.2 0, 7, .inl t_rowsTaken)), (q_t_columnsTaken, .inl (G.2 0, 7, .inl t_columnsTaken))] H → va_D A0 [(q_t, .inr (9, [.ref q_t_z, .ref q_t_old, .ref q_t_past, .int t_states, .ref q_t_kept, .int t_isKept, .ref q_t_text, .int t_length, .ref q_t_order, .ref q_t_told, .int t_spot, .int t_toldRows, .ref q_t_rowsTaken, .ref q_t_columnsTaken, .ref q_t_ways, .ref q_t_scaled, .ref q_t_rowFactors, .ref q_t_columnFactors, .ref q_t_rest, .ref q_t_diagonals, .ref q_t_weights])), (q_t_z, .inl (G.2 0, 50, .inl t_z)), (q_t_order, .inl (G.2 0, 7, .inl t_order)), (q_t_rowsTaken, .inl (G.2 0, 7, .inl t_rowsTaken)), (q_t_columnsTaken, .inl (G.2 0, 7, .inl t_columnsTaken))] → va_S A0 H0 H locs → lv_has ls 5 [(0, .ref q_t), (1, .int x1), (2, .long x2), (4, .int x4)] → W p l e ({ frames := 1, cells := 0, slots := 0, locals := 22 } : Room) s m args below meth c H locs 0 0 Q (F0 m 5 ls []) := by
  obtain ⟨hx, hb, hml, hown, hts⟩ := C
  intro n
  induction n with
  | zero => intro x2 x4 h; exact absurd h (fun h => lp_0 h)
  | succ n ih =>
    intro x2 x4 h H locs ls hP hD hS hl
    obtain ⟨y, h, hk⟩ := lp_s h
    rw [f_X10_product_L1] at h
    refine lv_iload hx hb dX10_product_5 (lv_at hl 3 rfl) ?_
    refine lv_iload_n hx hb dX10_product_7 rfl (lv_at hl 1 rfl) ?_
    refine lv_icmp_ge (tgt := 44) hx hb dX10_product_8 (by decide) (fun c_1 => ?_) (fun c_1 => ?_)
    · replace h := it_t h c_1
      obtain rfl := sm1 h
      obtain rfl := sm1 hk
      exact K H locs ls hP hD hS (lv_sub hl [2] rfl)
    · replace h := it_f h c_1
      refine lv_lload_n hx hb dX10_product_11 rfl (lv_at hl 2 rfl) ?_
      refine lv_aload_n hx hb dX10_product_12 rfl (lv_at hl 0 rfl) ?_
      refine lv_aload_n hx hb dX10_product_13 rfl (lv_at hl 0 rfl) ?_
      refine va_get (D := G.1) (ci := 9) (v := .ref q_t_rowsTaken) (C := RX10) (T := TX10) (N := 21) hx hb hts wi_X10_product_X10 hown hK hP 0 rfl rfl 12 (by decide) (hts _ wd_X10_product_1) (fun _ h9 => h9) rfl dX10_product_14 ?_
      refine lv_iload hx hb dX10_product_17 (lv_at hl 3 rfl) ?_
      obtain ⟨g_2, h⟩ := gd_ok h
      refine va_iald (D := G.1) hx hb hK hP 3 0 rfl rfl g_2 dX10_product_19 ?_
      refine lv_aload_n hx hb dX10_product_20 rfl (lv_at hl 0 rfl) ?_
      refine va_get (D := G.1) (ci := 9) (v := .ref q_t_columnsTaken) (C := RX10) (T := TX10) (N := 21) hx hb hts wi_X10_product_X10 hown hK hP 0 rfl rfl 13 (by decide) (hts _ wd_X10_product_2) (fun _ h9 => h9) rfl dX10_product_21 ?_
      refine lv_aload_n hx hb dX10_product_24 rfl (lv_at hl 0 rfl) ?_
      refine va_get (D := G.1) (ci := 9) (v := .ref q_t_order) (C := RX10) (T := TX10) (N := 21) hx hb hts wi_X10_product_X10 hown hK hP 0 rfl rfl 8 (by decide) (hts _ wd_X10_product_3) (fun _ h9 => h9) rfl dX10_product_25 ?_
      refine lv_iload hx hb dX10_product_28 (lv_at hl 3 rfl) ?_
      obtain ⟨g_3, h⟩ := gd_ok h
      refine va_iald (D := G.1) hx hb hK hP 2 0 rfl rfl g_3 dX10_product_30 ?_
      obtain ⟨g_4, h⟩ := gd_ok h
      refine va_iald (D := G.1) hx hb hK hP 4 0 rfl rfl g_4 dX10_product_31 ?_
      obtain ⟨r_5, hf_6, h⟩ := bd_ok h
      refine ck_Vi (rest := [.long x2]) (wn := [(q_t, .inr (9, [.ref q_t_z, .ref q_t_old, .ref q_t_past, .int t_states, .ref q_t_kept, .int t_isKept, .ref q_t_text, .int t_length, .ref q_t_order, .ref q_t_told, .int t_spot, .int t_toldRows, .ref q_t_rowsTaken, .ref q_t_columnsTaken, .ref q_t_ways, .ref q_t_scaled, .ref q_t_rowFactors, .ref q_t_columnFactors, .ref q_t_rest, .ref q_t_diagonals, .ref q_t_weights])), (q_t_z, .inl (G.2 0, 50, .inl t_z)), (q_t_order, .inl (G.2 0, 7, .inl t_order)), (q_t_rowsTaken, .inl (G.2 0, 7, .inl t_rowsTaken)), (q_t_columnsTaken, .inl (G.2 0, 7, .inl t_columnsTaken))]) ⟨hx, hb, hml, hown, hts⟩ hK hP hD hS hA [0, 1] [2, 3, 4] [3, 4, 0, 1, 2] (c_X10_at l G q_t q_t_z q_t_old q_t_past q_t_kept q_t_text q_t_order q_t_told q_t_rowsTaken q_t_columnsTaken q_t_ways q_t_scaled q_t_rowFactors q_t_columnFactors q_t_rest q_t_diagonals q_t_weights _ t_states t_isKept t_length t_spot t_toldRows t_z (t_rowsTaken x4.toNatClampNeg) (t_columnsTaken (t_order x4.toNatClampNeg).toNatClampNeg) _ hf_6) (cwV 2 hts gX10_product_X10_at rfl rfl rfl (by decide +kernel) ⟨Nat.le_of_ble_eq_true rfl, Nat.le_of_ble_eq_true rfl⟩) rfl rfl rfl rfl rfl rfl (by decide) rfl rfl rfl hl.1 rfl (Nat.le_of_ble_eq_true rfl) dX10_product_32 ⟨Nat.zero_le _, Nat.zero_le _⟩ (fun H locs hP hD hS => ?_)
      refine lv_i2l hx hb dX10_product_35 rfl ?_
      refine lv_lmul hx hb dX10_product_36 ?_
      refine lv_topl (fun x2_7 ex2_7 => ?_)
      replace h := pl_v h ex2_7
      refine lv_lstore_n (lv' := [(2, .long x2_7), (0, .ref q_t), (1, .int x1), (4, .int x4)]) hx hb dX10_product_37 rfl hl (by decide) rfl (fun ls hl => ?_)
      obtain ⟨x4_8, ex4_8, h⟩ := pl_ok h
      refine lv_iinc (v := x4_8) (lv' := [(4, .int x4_8), (2, .long x2_7), (0, .ref q_t), (1, .int x1)]) hx hb dX10_product_38 hl (k := 3) rfl (by rw [ex4_8]; rfl) (by decide) rfl (fun ls hl => ?_)
      refine lv_goto (tgt := 5) hx hb dX10_product_41 (by decide) ?_
      obtain rfl := sm1 h
      exact ih x2_7 x4_8 hk H locs ls hP hD hS (lv_sub hl [2, 3, 1, 0] rfl)
set_option maxHeartbeats 4000000 in
set_option maxRecDepth 100000 in
theorem k_X10_product {p : Program} {l : Launch} {e : Env} {s : State} {m : MethodId} {args : Array Value} {below : List Frame} {meth : Method} {c : Code} {Q : State → Prop} {A0 : Nat → Prop} {H0 : Heap} (C : CallFix p m c cX10_product 5 s args wsX10_product RX10) (G : GT) (hK : gK G s) (hA : ∀ q : Nat, H0.size ≤ q → A0 q) (q_t q_t_z q_t_old q_t_past q_t_kept q_t_text q_t_order q_t_told q_t_rowsTaken q_t_columnsTaken q_t_ways q_t_scaled q_t_rowFactors q_t_columnFactors q_t_rest q_t_diagonals q_t_weights : Nat) (t_states : Int32) (t_isKept : Int32) (t_length : Int32) (t_spot : Int32) (t_toldRows : Int32) (t_z : Nat → Int32) (t_order : Nat → Int32) (t_rowsTaken : Nat → Int32) (t_columnsTaken : Nat → Int32) (a1 : Int32) (r : Int64) (h : f_X10_product t_z t_order t_rowsTaken t_columnsTaken a1 = some r) (KR : ∀ (H : Heap) (locs : List Loc) (ls : Array Slot) (pc : Nat), decode cX10_product pc = .ok (.lreturn, 1) → va_P G.1 vwCl [(q_t, .inr (9, [.ref q_t_z, .ref q_t_old, .ref q_t_past, .int t_states, .ref q_t_kept, .int t_isKept, .ref q_t_text, .int t_length, .ref q_t_order, .ref q_t_told, .int t_spot, .int t_toldRows, .ref q_t_rowsTaken, .ref q_t_columnsTaken, .ref q_t_ways, .ref q_t_scaled, .ref q_t_rowFactors, .ref q_t_columnFactors, .ref q_t_rest, .ref q_t_diagonals, .ref q_t_weights])), (q_t_z, .inl (G.2 0, 50, .inl t_z)), (q_t_order, .inl (G.2 0, 7, .inl t_order)), (q_t_rowsTaken, .inl (G.2 0, 7, .inl t_rowsTaken)), (q_t_columnsTaken, .inl (G.2 0, 7, .inl t_columnsTaken))] H → va_D A0 [(q_t, .inr (9, [.ref q_t_z, .ref q_t_old, .ref q_t_past, .int t_states, .ref q_t_kept, .int t_isKept, .ref q_t_text, .int t_length, .ref q_t_order, .ref q_t_told, .int t_spot, .int t_toldRows, .ref q_t_rowsTaken, .ref q_t_columnsTaken, .ref q_t_ways, .ref q_t_scaled, .ref q_t_rowFactors, .ref q_t_columnFactors, .ref q_t_rest, .ref q_t_diagonals, .ref q_t_weights])), (q_t_z, .inl (G.2 0, 50, .inl t_z)), (q_t_order, .inl (G.2 0, 7, .inl t_order)), (q_t_rowsTaken, .inl (G.2 0, 7, .inl t_rowsTaken)), (q_t_columnsTaken, .inl (G.2 0, 7, .inl t_columnsTaken))] → va_S A0 H0 H locs → W p l e ({ frames := 1, cells := 0, slots := 0, locals := 22 } : Room) s m args below meth c H locs 0 0 Q (F0 m pc ls [.long r])) : ∀ (H : Heap) (locs : List Loc) (ls : Array Slot), va_P G.1 vwCl [(q_t, .inr (9, [.ref q_t_z, .ref q_t_old, .ref q_t_past, .int t_states, .ref q_t_kept, .int t_isKept, .ref q_t_text, .int t_length, .ref q_t_order, .ref q_t_told, .int t_spot, .int t_toldRows, .ref q_t_rowsTaken, .ref q_t_columnsTaken, .ref q_t_ways, .ref q_t_scaled, .ref q_t_rowFactors, .ref q_t_columnFactors, .ref q_t_rest, .ref q_t_diagonals, .ref q_t_weights])), (q_t_z, .inl (G.2 0, 50, .inl t_z)), (q_t_order, .inl (G.2 0, 7, .inl t_order)), (q_t_rowsTaken, .inl (G.2 0, 7, .inl t_rowsTaken)), (q_t_columnsTaken, .inl (G.2 0, 7, .inl t_columnsTaken))] H → va_D A0 [(q_t, .inr (9, [.ref q_t_z, .ref q_t_old, .ref q_t_past, .int t_states, .ref q_t_kept, .int t_isKept, .ref q_t_text, .int t_length, .ref q_t_order, .ref q_t_told, .int t_spot, .int t_toldRows, .ref q_t_rowsTaken, .ref q_t_columnsTaken, .ref q_t_ways, .ref q_t_scaled, .ref q_t_rowFactors, .ref q_t_columnFactors, .ref q_t_rest, .ref q_t_diagonals, .ref q_t_weights])), (q_t_z, .inl (G.2 0, 50, .inl t_z)), (q_t_order, .inl (G.2 0, 7, .inl t_order)), (q_t_rowsTaken, .inl (G.2 0, 7, .inl t_rowsTaken)), (q_t_columnsTaken, .inl (G.2 0, 7, .inl t_columnsTaken))] → va_S A0 H0 H locs → lv_has ls 5 [(0, .ref q_t), (1, .int a1)] → W p l e ({ frames := 1, cells := 0, slots := 0, locals := 22 } : Room) s m args below meth c H locs 0 0 Q (F0 m 0 ls []) := by
  obtain ⟨hx, hb, hml, hown, hts⟩ := C
  intro H locs ls hP hD hS hl
  rw [f_X10_product] at h
  refine lv_lconst (v := 1) hx hb dX10_product_0 (by decide) ?_
  refine lv_lstore_n (lv' := [(2, .long (1 : Int64)), (0, .ref q_t), (1, .int a1)]) hx hb dX10_product_1 rfl hl (by decide) rfl (fun ls hl => ?_)
  refine lv_iconst (v := 0) hx hb dX10_product_2 (by decide) ?_
  refine lv_istore (lv' := [(4, .int (0 : Int32)), (2, .long (1 : Int64)), (0, .ref q_t), (1, .int a1)]) hx hb dX10_product_3 hl (by decide) rfl (fun ls hl => ?_)
  obtain ⟨x2_9, hz_11, h⟩ := bd_ok h
  refine l_X10_product_1 ⟨hx, hb, hml, hown, hts⟩ G hK hA q_t q_t_z q_t_old q_t_past q_t_kept q_t_text q_t_order q_t_told q_t_rowsTaken q_t_columnsTaken q_t_ways q_t_scaled q_t_rowFactors q_t_columnFactors q_t_rest q_t_diagonals q_t_weights a1 t_states t_isKept t_length t_spot t_toldRows t_z t_order t_rowsTaken t_columnsTaken x2_9 ?_ FU (1 : Int64) (0 : Int32) hz_11 H locs ls hP hD hS (lv_sub hl [2, 3, 1, 0] rfl)
  intro H locs ls hP hD hS hl
  refine lv_lload_n hx hb dX10_product_44 rfl (lv_at hl 0 rfl) ?_
  obtain rfl := sm1 h
  exact KR H locs ls 45 dX10_product_45 hP hD hS
set_option maxHeartbeats 4000000 in
set_option maxRecDepth 100000 in
theorem c_X10_product (l : Launch) (G : GT) (q_t q_t_z q_t_old q_t_past q_t_kept q_t_text q_t_order q_t_told q_t_rowsTaken q_t_columnsTaken q_t_ways q_t_scaled q_t_rowFactors q_t_columnFactors q_t_rest q_t_diagonals q_t_weights : Nat) (sz : Nat) (t_states : Int32) (t_isKept : Int32) (t_length : Int32) (t_spot : Int32) (t_toldRows : Int32) (t_z : Nat → Int32) (t_order : Nat → Int32) (t_rowsTaken : Nat → Int32) (t_columnsTaken : Nat → Int32) (a1 : Int32) (r : Int64) (h : f_X10_product t_z t_order t_rowsTaken t_columnsTaken a1 = some r) : Met l yX10_product wsX10_product ({ frames := 1, cells := 0, slots := 0, locals := 22 } : Room) (va_Pc [.ref q_t, .int a1] (pcW G [(q_t, .inr (9, [.ref q_t_z, .ref q_t_old, .ref q_t_past, .int t_states, .ref q_t_kept, .int t_isKept, .ref q_t_text, .int t_length, .ref q_t_order, .ref q_t_told, .int t_spot, .int t_toldRows, .ref q_t_rowsTaken, .ref q_t_columnsTaken, .ref q_t_ways, .ref q_t_scaled, .ref q_t_rowFactors, .ref q_t_columnFactors, .ref q_t_rest, .ref q_t_diagonals, .ref q_t_weights])), (q_t_z, .inl (G.2 0, 50, .inl t_z)), (q_t_order, .inl (G.2 0, 7, .inl t_order)), (q_t_rowsTaken, .inl (G.2 0, 7, .inl t_rowsTaken)), (q_t_columnsTaken, .inl (G.2 0, 7, .inl t_columnsTaken))] sz)) (va_Ql (fun r9 (_ : Unit) => r9 = r) (fun _ t => atW G (va_A [(q_t, .inr (9, [.ref q_t_z, .ref q_t_old, .ref q_t_past, .int t_states, .ref q_t_kept, .int t_isKept, .ref q_t_text, .int t_length, .ref q_t_order, .ref q_t_told, .int t_spot, .int t_toldRows, .ref q_t_rowsTaken, .ref q_t_columnsTaken, .ref q_t_ways, .ref q_t_scaled, .ref q_t_rowFactors, .ref q_t_columnFactors, .ref q_t_rest, .ref q_t_diagonals, .ref q_t_weights])), (q_t_z, .inl (G.2 0, 50, .inl t_z)), (q_t_order, .inl (G.2 0, 7, .inl t_order)), (q_t_rowsTaken, .inl (G.2 0, 7, .inl t_rowsTaken)), (q_t_columnsTaken, .inl (G.2 0, 7, .inl t_columnsTaken))] sz) [(q_t, .inr (9, [.ref q_t_z, .ref q_t_old, .ref q_t_past, .int t_states, .ref q_t_kept, .int t_isKept, .ref q_t_text, .int t_length, .ref q_t_order, .ref q_t_told, .int t_spot, .int t_toldRows, .ref q_t_rowsTaken, .ref q_t_columnsTaken, .ref q_t_ways, .ref q_t_scaled, .ref q_t_rowFactors, .ref q_t_columnFactors, .ref q_t_rest, .ref q_t_diagonals, .ref q_t_weights])), (q_t_z, .inl (G.2 0, 50, .inl t_z)), (q_t_order, .inl (G.2 0, 7, .inl t_order)), (q_t_rowsTaken, .inl (G.2 0, 7, .inl t_rowsTaken)), (q_t_columnsTaken, .inl (G.2 0, 7, .inl t_columnsTaken))] t) (va_A [(q_t, .inr (9, [.ref q_t_z, .ref q_t_old, .ref q_t_past, .int t_states, .ref q_t_kept, .int t_isKept, .ref q_t_text, .int t_length, .ref q_t_order, .ref q_t_told, .int t_spot, .int t_toldRows, .ref q_t_rowsTaken, .ref q_t_columnsTaken, .ref q_t_ways, .ref q_t_scaled, .ref q_t_rowFactors, .ref q_t_columnFactors, .ref q_t_rest, .ref q_t_diagonals, .ref q_t_weights])), (q_t_z, .inl (G.2 0, 50, .inl t_z)), (q_t_order, .inl (G.2 0, 7, .inl t_order)), (q_t_rowsTaken, .inl (G.2 0, 7, .inl t_rowsTaken)), (q_t_columnsTaken, .inl (G.2 0, 7, .inl t_columnsTaken))] sz)) 0 0 (va_A [(q_t, .inr (9, [.ref q_t_z, .ref q_t_old, .ref q_t_past, .int t_states, .ref q_t_kept, .int t_isKept, .ref q_t_text, .int t_length, .ref q_t_order, .ref q_t_told, .int t_spot, .int t_toldRows, .ref q_t_rowsTaken, .ref q_t_columnsTaken, .ref q_t_ways, .ref q_t_scaled, .ref q_t_rowFactors, .ref q_t_columnFactors, .ref q_t_rest, .ref q_t_diagonals, .ref q_t_weights])), (q_t_z, .inl (G.2 0, 50, .inl t_z)), (q_t_order, .inl (G.2 0, 7, .inl t_order)), (q_t_rowsTaken, .inl (G.2 0, 7, .inl t_rowsTaken)), (q_t_columnsTaken, .inl (G.2 0, 7, .inl t_columnsTaken))] sz) := by
  refine Met.ofW (cc := cX10_product) (maxL := 5) (ret := (some .long)) (by decide) rfl ?_
  intro p e s m args below meth c s₁ B hml hv
  obtain ⟨rfl, hsz, hP, hK, hD0⟩ := hv
  subst hsz
  have hD := hD0.self (sz := s.heap.size)
  generalize hAe : va_A [(q_t, .inr (9, [.ref q_t_z, .ref q_t_old, .ref q_t_past, .int t_states, .ref q_t_kept, .int t_isKept, .ref q_t_text, .int t_length, .ref q_t_order, .ref q_t_told, .int t_spot, .int t_toldRows, .ref q_t_rowsTaken, .ref q_t_columnsTaken, .ref q_t_ways, .ref q_t_scaled, .ref q_t_rowFactors, .ref q_t_columnFactors, .ref q_t_rest, .ref q_t_diagonals, .ref q_t_weights])), (q_t_z, .inl (G.2 0, 50, .inl t_z)), (q_t_order, .inl (G.2 0, 7, .inl t_order)), (q_t_rowsTaken, .inl (G.2 0, 7, .inl t_rowsTaken)), (q_t_columnsTaken, .inl (G.2 0, 7, .inl t_columnsTaken))] s.heap.size = A at hD ⊢
  have hA : ∀ q : Nat, s.heap.size ≤ q → A q := fun q h => by rw [← hAe]; exact Or.inr h
  have hl := lv_entry ([.ref q_t, .int a1]) (n := 5) (Nat.le_of_ble_eq_true rfl)
  rw [lg_entry_eq]
  refine k_X10_product ⟨B.exec, B.bytes, hml, findClass_of_methodNamed B.named, atoms_spec (ws := wsX10_product) B.pre⟩ G hK hA q_t q_t_z q_t_old q_t_past q_t_kept q_t_text q_t_order q_t_told q_t_rowsTaken q_t_columnsTaken q_t_ways q_t_scaled q_t_rowFactors q_t_columnFactors q_t_rest q_t_diagonals q_t_weights _ _ _ _ _ _ _ _ _ _ _ h ?_ _ _ _ hP hD va_S.rf hl
  intro H locs ls pc hd hP hD hS
  exact W.lret B.exec B.bytes B.returns (fun t ht hW => ⟨⟨r, (), rfl, rfl, by rw [ht]; exact hP, hD⟩, hS.F ht⟩) hS.2.2 hd B.notSynchronized
set_option maxRecDepth 20000 in
theorem wd_X10_sumOfSets_1 : Cond.fieldLink RX10 31 "PermanentDeskModel" "rowsTaken" "[I" ∈ wsX10_sumOfSets := List.mem_of_getElem? (i := 1) (by decide +kernel)
set_option maxRecDepth 20000 in
theorem wi_X10_sumOfSets_X10 : ∀ w ∈ u_ws RX10 TX10 21, w ∈ wsX10_sumOfSets := by decide +kernel
set_option maxRecDepth 20000 in
theorem wd_X10_sumOfSets_2 : Cond.fieldLink RX10 34 "PermanentDeskModel" "columnsTaken" "[I" ∈ wsX10_sumOfSets := List.mem_of_getElem? (i := 2) (by decide +kernel)
def f_X10_sumOfSets_L1 (x3 : Int32) (x4 : Int32) (t_z : Nat → Int32) (t_rowsTaken : Nat → Int32) (t_columnsTaken : Nat → Int32) : (Int64 × Int32 × (Nat → Int32)) → Option ((Int64 × Int32 × (Nat → Int32)) ⊕ (Int64 × (Nat → Int32)))
  | (x5, x7, t_order) =>
    if x7 = 0 then
      some (.inr (x5, t_order))
    else
      (f_X10_product t_z t_order t_rowsTaken t_columnsTaken x4).bind (fun r_10 =>
      Option.bind (
        if x3 = 0 then
          some r_10
        else
          if (lg_cmp r_10 (0 : Int64)) = 0 then
            some (0 : Int64)
          else
            some (1 : Int64)) (fun y_13 =>
      pl ((x5 + y_13) : Int64) (fun x5_15 =>
      (f_X10_nextOrder t_order x4).bind (fun (r_17, t_order_16) =>
      some (.inl (x5_15, r_17, t_order_16))))))
def f_X10_sumOfSets (t_z : Nat → Int32) (t_order : Nat → Int32) (t_rowsTaken : Nat → Int32) (t_columnsTaken : Nat → Int32) (a1 : Int32) (a2 : Int32) (a3 : Int32) : Option (Int64 × (Nat → Int32) × (Nat → Int32) × (Nat → Int32)) :=
  (f_X10_take 7 t_rowsTaken a1).bind (fun (r_2, t_rowsTaken_1) =>
  (f_X10_take 7 t_columnsTaken a2).bind (fun (r_5, t_columnsTaken_4) =>
  (f_X10_firstOrder t_order r_2).bind (fun t_order_7 =>
  (lpN (f_X10_sumOfSets_L1 a3 r_2 t_z t_rowsTaken_1 t_columnsTaken_4) FU ((0 : Int64), (1 : Int32), t_order_7)).bind (fun (x5_19, t_order_20) =>
  some (x5_19, t_order_20, t_rowsTaken_1, t_columnsTaken_4)))))
set_option maxHeartbeats 4000000 in
set_option maxRecDepth 100000 in
theorem l_X10_sumOfSets_1 {p : Program} {l : Launch} {e : Env} {s : State} {m : MethodId} {args : Array Value} {below : List Frame} {meth : Method} {c : Code} {Q : State → Prop} {A0 : Nat → Prop} {H0 : Heap} (C : CallFix p m c cX10_sumOfSets 10 s args wsX10_sumOfSets RX10) (G : GT) (hK : gK G s) (hA : ∀ q : Nat, H0.size ≤ q → A0 q) (q_t q_t_z q_t_old q_t_past q_t_kept q_t_text q_t_order q_t_told q_t_rowsTaken q_t_columnsTaken q_t_ways q_t_scaled q_t_rowFactors q_t_columnFactors q_t_rest q_t_diagonals q_t_weights : Nat) (x3 : Int32) (x4 : Int32) (t_states : Int32) (t_isKept : Int32) (t_length : Int32) (t_spot : Int32) (t_toldRows : Int32) (t_z : Nat → Int32) (t_rowsTaken : Nat → Int32) (t_columnsTaken : Nat → Int32) (E_x5 : Int64) (E_t_order : Nat → Int32) (K : ∀ (H : Heap) (locs : List Loc) (ls : Array Slot), va_P G.1 vwCl [(q_t, .inr (9, [.ref q_t_z, .ref q_t_old, .ref q_t_past, .int t_states, .ref q_t_kept, .int t_isKept, .ref q_t_text, .int t_length, .ref q_t_order, .ref q_t_told, .int t_spot, .int t_toldRows, .ref q_t_rowsTaken, .ref q_t_columnsTaken, .ref q_t_ways, .ref q_t_scaled, .ref q_t_rowFactors, .ref q_t_columnFactors, .ref q_t_rest, .ref q_t_diagonals, .ref q_t_weights])), (q_t_z, .inl (G.2 0, 50, .inl t_z)), (q_t_order, .inl (G.2 0, 7, .inl E_t_order)), (q_t_rowsTaken, .inl (G.2 0, 7, .inl t_rowsTaken)), (q_t_columnsTaken, .inl (G.2 0, 7, .inl t_columnsTaken))] H → va_D A0 [(q_t, .inr (9, [.ref q_t_z, .ref q_t_old, .ref q_t_past, .int t_states, .ref q_t_kept, .int t_isKept, .ref q_t_text, .int t_length, .ref q_t_order, .ref q_t_told, .int t_spot, .int t_toldRows, .ref q_t_rowsTaken, .ref q_t_columnsTaken, .ref q_t_ways, .ref q_t_scaled, .ref q_t_rowFactors, .ref q_t_columnFactors, .ref q_t_rest, .ref q_t_diagonals, .ref q_t_weights])), (q_t_z, .inl (G.2 0, 50, .inl t_z)), (q_t_order, .inl (G.2 0, 7, .inl E_t_order)), (q_t_rowsTaken, .inl (G.2 0, 7, .inl t_rowsTaken)), (q_t_columnsTaken, .inl (G.2 0, 7, .inl t_columnsTaken))] → va_S A0 H0 H locs → lv_has ls 10 [(5, .long E_x5)] → W p l e ({ frames := 2, cells := 0, slots := 0, locals := 48 } : Room) s m args below meth c H locs 0 0 Q (F0 m 81 ls [])) : ∀ (n : Nat) (x5 : Int64) (x7 : Int32) (t_order : Nat → Int32), lpN (f_X10_sumOfSets_L1 x3 x4 t_z t_rowsTaken t_columnsTaken) n (x5, x7, t_order) = some (E_x5, E_t_order) → ∀ (H : Heap) (locs : List Loc) (ls : Array Slot), va_P G.1 vwCl [(q_t, .inr (9, [.ref q_t_z, .ref q_t_old, .ref q_t_past, .int t_states, .ref q_t_kept, .int t_isKept, .ref q_t_text, .int t_length, .ref q_t_order, .ref q_t_told, .int t_spot, .int t_toldRows, .ref q_t_rowsTaken, .ref q_t_columnsTaken, .ref q_t_ways, .ref q_t_scaled, .ref q_t_rowFactors, .ref q_t_columnFactors, .ref q_t_rest, .ref q_t_diagonals, .ref q_t_weights])), (q_t_z, .inl (G.2 0, 50, .inl t_z)), (q_t_order, .inl (G.2 0, 7, .inl t_order)), (q_t_rowsTaken, .inl (G.2 0, 7, .inl t_rowsTaken)), (q_t_columnsTaken, .inl (G.2 0, 7, .inl t_columnsTaken))] H → va_D A0 [(q_t, .inr (9, [.ref q_t_z, .ref q_t_old, .ref q_t_past, .int t_states, .ref q_t_kept, .int t_isKept, .ref q_t_text, .int t_length, .ref q_t_order, .ref q_t_told, .int t_spot, .int t_toldRows, .ref q_t_rowsTaken, .ref q_t_columnsTaken, .ref q_t_ways, .ref q_t_scaled, .ref q_t_rowFactors, .ref q_t_columnFactors, .ref q_t_rest, .ref q_t_diagonals, .ref q_t_weights])), (q_t_z, .inl (G.2 0, 50, .inl t_z)), (q_t_order, .inl (G.2 0, 7, .inl t_order)), (q_t_rowsTaken, .inl (G.2 0, 7, .inl t_rowsTaken)), (q_t_columnsTaken, .inl (G.2 0, 7, .inl t_columnsTaken))] → va_S A0 H0 H locs → lv_has ls 10 [(0, .ref q_t), (3, .int x3), (4, .int x4), (5, .long x5), (7, .int x7)] → W p l e ({ frames := 2, cells := 0, slots := 0, locals := 48 } : Room) s m args below meth c H locs 0 0 Q (F0 m 31 ls []) := by
  obtain ⟨hx, hb, hml, hown, hts⟩ := C
  intro n
  induction n with
  | zero => intro x5 x7 t_order h; exact absurd h (fun h => lp_0 h)
  | succ n ih =>
    intro x5 x7 t_order h H locs ls hP hD hS hl
    obtain ⟨y, h, hk⟩ := lp_s h
    rw [f_X10_sumOfSets_L1] at h
    refine lv_iload hx hb dX10_sumOfSets_31 (lv_at hl 4 rfl) ?_
    refine lv_if_eq (tgt := 81) hx hb dX10_sumOfSets_33 (by decide) (fun c_9 => ?_) (fun c_9 => ?_)
    · replace h := it_t h c_9
      obtain rfl := sm1 h
      obtain ⟨rfl, rfl⟩ := sm2 hk
      exact K H locs ls hP hD hS (lv_sub hl [3] rfl)
    · replace h := it_f h c_9
      refine lv_aload_n hx hb dX10_sumOfSets_36 rfl (lv_at hl 0 rfl) ?_
      refine lv_iload hx hb dX10_sumOfSets_37 (lv_at hl 2 rfl) ?_
      obtain ⟨r_10, hf_11, h⟩ := bd_ok h
      refine ck_Vl (rest := []) (wn := [(q_t, .inr (9, [.ref q_t_z, .ref q_t_old, .ref q_t_past, .int t_states, .ref q_t_kept, .int t_isKept, .ref q_t_text, .int t_length, .ref q_t_order, .ref q_t_told, .int t_spot, .int t_toldRows, .ref q_t_rowsTaken, .ref q_t_columnsTaken, .ref q_t_ways, .ref q_t_scaled, .ref q_t_rowFactors, .ref q_t_columnFactors, .ref q_t_rest, .ref q_t_diagonals, .ref q_t_weights])), (q_t_z, .inl (G.2 0, 50, .inl t_z)), (q_t_order, .inl (G.2 0, 7, .inl t_order)), (q_t_rowsTaken, .inl (G.2 0, 7, .inl t_rowsTaken)), (q_t_columnsTaken, .inl (G.2 0, 7, .inl t_columnsTaken))]) ⟨hx, hb, hml, hown, hts⟩ hK hP hD hS hA [0, 1, 2, 3, 4] [] [0, 1, 2, 3, 4] (c_X10_product l G q_t q_t_z q_t_old q_t_past q_t_kept q_t_text q_t_order q_t_told q_t_rowsTaken q_t_columnsTaken q_t_ways q_t_scaled q_t_rowFactors q_t_columnFactors q_t_rest q_t_diagonals q_t_weights _ t_states t_isKept t_length t_spot t_toldRows t_z t_order t_rowsTaken t_columnsTaken x4 _ hf_11) (cwV 1 hts gX10_sumOfSets_X10_product rfl rfl rfl (by decide +kernel) ⟨Nat.le_of_ble_eq_true rfl, Nat.le_of_ble_eq_true rfl⟩) rfl rfl rfl rfl rfl rfl (by decide) rfl rfl rfl hl.1 rfl (Nat.le_of_ble_eq_true rfl) dX10_sumOfSets_39 ⟨Nat.zero_le _, Nat.zero_le _⟩ (fun H locs hP hD hS => ?_)
      refine lv_lstore (lv' := [(8, .long r_10), (0, .ref q_t), (3, .int x3), (4, .int x4), (5, .long x5), (7, .int x7)]) hx hb dX10_sumOfSets_42 hl (by decide) rfl (fun ls hl => ?_)
      refine lv_lload hx hb dX10_sumOfSets_44 (lv_at hl 4 rfl) ?_
      refine lv_iload_n hx hb dX10_sumOfSets_46 rfl (lv_at hl 2 rfl) ?_
      obtain ⟨y_13, hr, h⟩ := bd_ok h
      have J : ∀ (H : Heap) (locs : List Loc) (ls : Array Slot), va_P G.1 vwCl [(q_t, .inr (9, [.ref q_t_z, .ref q_t_old, .ref q_t_past, .int t_states, .ref q_t_kept, .int t_isKept, .ref q_t_text, .int t_length, .ref q_t_order, .ref q_t_told, .int t_spot, .int t_toldRows, .ref q_t_rowsTaken, .ref q_t_columnsTaken, .ref q_t_ways, .ref q_t_scaled, .ref q_t_rowFactors, .ref q_t_columnFactors, .ref q_t_rest, .ref q_t_diagonals, .ref q_t_weights])), (q_t_z, .inl (G.2 0, 50, .inl t_z)), (q_t_order, .inl (G.2 0, 7, .inl t_order)), (q_t_rowsTaken, .inl (G.2 0, 7, .inl t_rowsTaken)), (q_t_columnsTaken, .inl (G.2 0, 7, .inl t_columnsTaken))] H → va_D A0 [(q_t, .inr (9, [.ref q_t_z, .ref q_t_old, .ref q_t_past, .int t_states, .ref q_t_kept, .int t_isKept, .ref q_t_text, .int t_length, .ref q_t_order, .ref q_t_told, .int t_spot, .int t_toldRows, .ref q_t_rowsTaken, .ref q_t_columnsTaken, .ref q_t_ways, .ref q_t_scaled, .ref q_t_rowFactors, .ref q_t_columnFactors, .ref q_t_rest, .ref q_t_diagonals, .ref q_t_weights])), (q_t_z, .inl (G.2 0, 50, .inl t_z)), (q_t_order, .inl (G.2 0, 7, .inl t_order)), (q_t_rowsTaken, .inl (G.2 0, 7, .inl t_rowsTaken)), (q_t_columnsTaken, .inl (G.2 0, 7, .inl t_columnsTaken))] → va_S A0 H0 H locs → lv_has ls 10 [(0, .ref q_t), (3, .int x3), (4, .int x4)] → W p l e ({ frames := 2, cells := 0, slots := 0, locals := 48 } : Room) s m args below meth c H locs 0 0 Q (F0 m 67 ls [.long y_13, .long x5]) := by
        intro H locs ls hP hD hS hl
        refine lv_ladd hx hb dX10_sumOfSets_67 ?_
        refine lv_topl (fun x5_15 ex5_15 => ?_)
        replace h := pl_v h ex5_15
        refine lv_lstore (lv' := [(5, .long x5_15), (0, .ref q_t), (3, .int x3), (4, .int x4)]) hx hb dX10_sumOfSets_68 hl (by decide) rfl (fun ls hl => ?_)
        refine lv_aload_n hx hb dX10_sumOfSets_70 rfl (lv_at hl 1 rfl) ?_
        refine lv_iload hx hb dX10_sumOfSets_71 (lv_at hl 3 rfl) ?_
        obtain ⟨⟨r_17, t_order_16⟩, hf_18, h⟩ := bd_ok h
        refine ck_Vi (rest := []) (wn := [(q_t, .inr (9, [.ref q_t_z, .ref q_t_old, .ref q_t_past, .int t_states, .ref q_t_kept, .int t_isKept, .ref q_t_text, .int t_length, .ref q_t_order, .ref q_t_told, .int t_spot, .int t_toldRows, .ref q_t_rowsTaken, .ref q_t_columnsTaken, .ref q_t_ways, .ref q_t_scaled, .ref q_t_rowFactors, .ref q_t_columnFactors, .ref q_t_rest, .ref q_t_diagonals, .ref q_t_weights])), (q_t_z, .inl (G.2 0, 50, .inl t_z)), (q_t_order, .inl (G.2 0, 7, .inl t_order_16)), (q_t_rowsTaken, .inl (G.2 0, 7, .inl t_rowsTaken)), (q_t_columnsTaken, .inl (G.2 0, 7, .inl t_columnsTaken))]) ⟨hx, hb, hml, hown, hts⟩ hK hP hD hS hA [0, 2] [1, 3, 4] [3, 0, 4, 1, 2] (c_X10_nextOrder l G q_t q_t_z q_t_old q_t_past q_t_kept q_t_text q_t_order q_t_told q_t_rowsTaken q_t_columnsTaken q_t_ways q_t_scaled q_t_rowFactors q_t_columnFactors q_t_rest q_t_diagonals q_t_weights _ t_states t_isKept t_length t_spot t_toldRows t_order x4 _ _ hf_18) (cwV 1 hts gX10_sumOfSets_X10_nextOrder rfl rfl rfl (by decide +kernel) ⟨Nat.le_of_ble_eq_true rfl, Nat.le_of_ble_eq_true rfl⟩) rfl rfl rfl rfl rfl rfl (by decide) rfl rfl rfl hl.1 rfl (Nat.le_of_ble_eq_true rfl) dX10_sumOfSets_73 ⟨Nat.zero_le _, Nat.zero_le _⟩ (fun H locs hP hD hS => ?_)
        refine lv_istore (lv' := [(7, .int r_17), (5, .long x5_15), (0, .ref q_t), (3, .int x3), (4, .int x4)]) hx hb dX10_sumOfSets_76 hl (by decide) rfl (fun ls hl => ?_)
        refine lv_goto (tgt := 31) hx hb dX10_sumOfSets_78 (by decide) ?_
        obtain rfl := sm1 h
        exact ih x5_15 r_17 t_order_16 hk H locs ls hP hD hS (lv_sub hl [2, 3, 4, 1, 0] rfl)
      replace h := hr
      clear hr
      refine lv_if_ne (tgt := 55) hx hb dX10_sumOfSets_47 (by decide) (fun c_12 => ?_) (fun c_12 => ?_)
      · replace h := it_f h c_12
        refine lv_lload hx hb dX10_sumOfSets_55 (lv_at hl 0 rfl) ?_
        refine lv_lconst (v := 0) hx hb dX10_sumOfSets_57 (by decide) ?_
        refine W.lcmp hx hb dX10_sumOfSets_58 ?_
        refine lv_if_ne (tgt := 66) hx hb dX10_sumOfSets_59 (by decide) (fun c_14 => ?_) (fun c_14 => ?_)
        · replace h := it_f h c_14
          refine lv_lconst (v := 1) hx hb dX10_sumOfSets_66 (by decide) ?_
          obtain rfl := sm1 h
          exact J H locs ls hP hD hS (lv_sub hl [1, 2, 3] rfl)
        · replace h := it_t h c_14
          refine lv_lconst (v := 0) hx hb dX10_sumOfSets_62 (by decide) ?_
          refine lv_goto (tgt := 67) hx hb dX10_sumOfSets_63 (by decide) ?_
          obtain rfl := sm1 h
          exact J H locs ls hP hD hS (lv_sub hl [1, 2, 3] rfl)
      · replace h := it_t h c_12
        refine lv_lload hx hb dX10_sumOfSets_50 (lv_at hl 0 rfl) ?_
        refine lv_goto (tgt := 67) hx hb dX10_sumOfSets_52 (by decide) ?_
        obtain rfl := sm1 h
        exact J H locs ls hP hD hS (lv_sub hl [1, 2, 3] rfl)
set_option maxHeartbeats 4000000 in
set_option maxRecDepth 100000 in
theorem k_X10_sumOfSets {p : Program} {l : Launch} {e : Env} {s : State} {m : MethodId} {args : Array Value} {below : List Frame} {meth : Method} {c : Code} {Q : State → Prop} {A0 : Nat → Prop} {H0 : Heap} (C : CallFix p m c cX10_sumOfSets 10 s args wsX10_sumOfSets RX10) (G : GT) (hK : gK G s) (hA : ∀ q : Nat, H0.size ≤ q → A0 q) (q_t q_t_z q_t_old q_t_past q_t_kept q_t_text q_t_order q_t_told q_t_rowsTaken q_t_columnsTaken q_t_ways q_t_scaled q_t_rowFactors q_t_columnFactors q_t_rest q_t_diagonals q_t_weights : Nat) (t_states : Int32) (t_isKept : Int32) (t_length : Int32) (t_spot : Int32) (t_toldRows : Int32) (t_z : Nat → Int32) (t_order : Nat → Int32) (t_rowsTaken : Nat → Int32) (t_columnsTaken : Nat → Int32) (a1 : Int32) (a2 : Int32) (a3 : Int32) (r : Int64) (o_t_order : Nat → Int32) (o_t_rowsTaken : Nat → Int32) (o_t_columnsTaken : Nat → Int32) (h : f_X10_sumOfSets t_z t_order t_rowsTaken t_columnsTaken a1 a2 a3 = some (r, o_t_order, o_t_rowsTaken, o_t_columnsTaken)) (KR : ∀ (H : Heap) (locs : List Loc) (ls : Array Slot) (pc : Nat), decode cX10_sumOfSets pc = .ok (.lreturn, 1) → va_P G.1 vwCl [(q_t, .inr (9, [.ref q_t_z, .ref q_t_old, .ref q_t_past, .int t_states, .ref q_t_kept, .int t_isKept, .ref q_t_text, .int t_length, .ref q_t_order, .ref q_t_told, .int t_spot, .int t_toldRows, .ref q_t_rowsTaken, .ref q_t_columnsTaken, .ref q_t_ways, .ref q_t_scaled, .ref q_t_rowFactors, .ref q_t_columnFactors, .ref q_t_rest, .ref q_t_diagonals, .ref q_t_weights])), (q_t_z, .inl (G.2 0, 50, .inl t_z)), (q_t_order, .inl (G.2 0, 7, .inl o_t_order)), (q_t_rowsTaken, .inl (G.2 0, 7, .inl o_t_rowsTaken)), (q_t_columnsTaken, .inl (G.2 0, 7, .inl o_t_columnsTaken))] H → va_D A0 [(q_t, .inr (9, [.ref q_t_z, .ref q_t_old, .ref q_t_past, .int t_states, .ref q_t_kept, .int t_isKept, .ref q_t_text, .int t_length, .ref q_t_order, .ref q_t_told, .int t_spot, .int t_toldRows, .ref q_t_rowsTaken, .ref q_t_columnsTaken, .ref q_t_ways, .ref q_t_scaled, .ref q_t_rowFactors, .ref q_t_columnFactors, .ref q_t_rest, .ref q_t_diagonals, .ref q_t_weights])), (q_t_z, .inl (G.2 0, 50, .inl t_z)), (q_t_order, .inl (G.2 0, 7, .inl o_t_order)), (q_t_rowsTaken, .inl (G.2 0, 7, .inl o_t_rowsTaken)), (q_t_columnsTaken, .inl (G.2 0, 7, .inl o_t_columnsTaken))] → va_S A0 H0 H locs → W p l e ({ frames := 2, cells := 0, slots := 0, locals := 48 } : Room) s m args below meth c H locs 0 0 Q (F0 m pc ls [.long r])) : ∀ (H : Heap) (locs : List Loc) (ls : Array Slot), va_P G.1 vwCl [(q_t, .inr (9, [.ref q_t_z, .ref q_t_old, .ref q_t_past, .int t_states, .ref q_t_kept, .int t_isKept, .ref q_t_text, .int t_length, .ref q_t_order, .ref q_t_told, .int t_spot, .int t_toldRows, .ref q_t_rowsTaken, .ref q_t_columnsTaken, .ref q_t_ways, .ref q_t_scaled, .ref q_t_rowFactors, .ref q_t_columnFactors, .ref q_t_rest, .ref q_t_diagonals, .ref q_t_weights])), (q_t_z, .inl (G.2 0, 50, .inl t_z)), (q_t_order, .inl (G.2 0, 7, .inl t_order)), (q_t_rowsTaken, .inl (G.2 0, 7, .inl t_rowsTaken)), (q_t_columnsTaken, .inl (G.2 0, 7, .inl t_columnsTaken))] H → va_D A0 [(q_t, .inr (9, [.ref q_t_z, .ref q_t_old, .ref q_t_past, .int t_states, .ref q_t_kept, .int t_isKept, .ref q_t_text, .int t_length, .ref q_t_order, .ref q_t_told, .int t_spot, .int t_toldRows, .ref q_t_rowsTaken, .ref q_t_columnsTaken, .ref q_t_ways, .ref q_t_scaled, .ref q_t_rowFactors, .ref q_t_columnFactors, .ref q_t_rest, .ref q_t_diagonals, .ref q_t_weights])), (q_t_z, .inl (G.2 0, 50, .inl t_z)), (q_t_order, .inl (G.2 0, 7, .inl t_order)), (q_t_rowsTaken, .inl (G.2 0, 7, .inl t_rowsTaken)), (q_t_columnsTaken, .inl (G.2 0, 7, .inl t_columnsTaken))] → va_S A0 H0 H locs → lv_has ls 10 [(0, .ref q_t), (1, .int a1), (2, .int a2), (3, .int a3)] → W p l e ({ frames := 2, cells := 0, slots := 0, locals := 48 } : Room) s m args below meth c H locs 0 0 Q (F0 m 0 ls []) := by
  obtain ⟨hx, hb, hml, hown, hts⟩ := C
  intro H locs ls hP hD hS hl
  rw [f_X10_sumOfSets] at h
  refine lv_iload_n hx hb dX10_sumOfSets_0 rfl (lv_at hl 1 rfl) ?_
  refine lv_aload_n hx hb dX10_sumOfSets_1 rfl (lv_at hl 0 rfl) ?_
  refine va_get (D := G.1) (ci := 9) (v := .ref q_t_rowsTaken) (C := RX10) (T := TX10) (N := 21) hx hb hts wi_X10_sumOfSets_X10 hown hK hP 0 rfl rfl 12 (by decide) (hts _ wd_X10_sumOfSets_1) (fun _ h9 => h9) rfl dX10_sumOfSets_2 ?_
  obtain ⟨⟨r_2, t_rowsTaken_1⟩, hf_3, h⟩ := bd_ok h
  refine ck_Si (rest := []) (wn := [(q_t, .inr (9, [.ref q_t_z, .ref q_t_old, .ref q_t_past, .int t_states, .ref q_t_kept, .int t_isKept, .ref q_t_text, .int t_length, .ref q_t_order, .ref q_t_told, .int t_spot, .int t_toldRows, .ref q_t_rowsTaken, .ref q_t_columnsTaken, .ref q_t_ways, .ref q_t_scaled, .ref q_t_rowFactors, .ref q_t_columnFactors, .ref q_t_rest, .ref q_t_diagonals, .ref q_t_weights])), (q_t_z, .inl (G.2 0, 50, .inl t_z)), (q_t_order, .inl (G.2 0, 7, .inl t_order)), (q_t_rowsTaken, .inl (G.2 0, 7, .inl t_rowsTaken_1)), (q_t_columnsTaken, .inl (G.2 0, 7, .inl t_columnsTaken))]) ⟨hx, hb, hml, hown, hts⟩ hK hP hD hS hA [3] [0, 1, 2, 4] [0, 1, 2, 4, 3] (c_X10_take l G q_t_rowsTaken _ 7 t_rowsTaken a1 _ _ hf_3) (cwS 2 hts gX10_sumOfSets_X10_take rfl rfl rfl (by decide +kernel) ⟨Nat.le_of_ble_eq_true rfl, Nat.le_of_ble_eq_true rfl⟩) rfl rfl rfl rfl (by decide) rfl rfl rfl hl.1 rfl (Nat.le_of_ble_eq_true rfl) dX10_sumOfSets_5 ⟨Nat.zero_le _, Nat.zero_le _⟩ (fun H locs hP hD hS => ?_)
  refine lv_istore (lv' := [(4, .int r_2), (0, .ref q_t), (1, .int a1), (2, .int a2), (3, .int a3)]) hx hb dX10_sumOfSets_8 hl (by decide) rfl (fun ls hl => ?_)
  refine lv_iload_n hx hb dX10_sumOfSets_10 rfl (lv_at hl 3 rfl) ?_
  refine lv_aload_n hx hb dX10_sumOfSets_11 rfl (lv_at hl 1 rfl) ?_
  refine va_get (D := G.1) (ci := 9) (v := .ref q_t_columnsTaken) (C := RX10) (T := TX10) (N := 21) hx hb hts wi_X10_sumOfSets_X10 hown hK hP 0 rfl rfl 13 (by decide) (hts _ wd_X10_sumOfSets_2) (fun _ h9 => h9) rfl dX10_sumOfSets_12 ?_
  obtain ⟨⟨r_5, t_columnsTaken_4⟩, hf_6, h⟩ := bd_ok h
  refine ck_Si (rest := []) (wn := [(q_t, .inr (9, [.ref q_t_z, .ref q_t_old, .ref q_t_past, .int t_states, .ref q_t_kept, .int t_isKept, .ref q_t_text, .int t_length, .ref q_t_order, .ref q_t_told, .int t_spot, .int t_toldRows, .ref q_t_rowsTaken, .ref q_t_columnsTaken, .ref q_t_ways, .ref q_t_scaled, .ref q_t_rowFactors, .ref q_t_columnFactors, .ref q_t_rest, .ref q_t_diagonals, .ref q_t_weights])), (q_t_z, .inl (G.2 0, 50, .inl t_z)), (q_t_order, .inl (G.2 0, 7, .inl t_order)), (q_t_rowsTaken, .inl (G.2 0, 7, .inl t_rowsTaken_1)), (q_t_columnsTaken, .inl (G.2 0, 7, .inl t_columnsTaken_4))]) ⟨hx, hb, hml, hown, hts⟩ hK hP hD hS hA [4] [0, 1, 2, 3] [0, 1, 2, 3, 4] (c_X10_take l G q_t_columnsTaken _ 7 t_columnsTaken a2 _ _ hf_6) (cwS 2 hts gX10_sumOfSets_X10_take rfl rfl rfl (by decide +kernel) ⟨Nat.le_of_ble_eq_true rfl, Nat.le_of_ble_eq_true rfl⟩) rfl rfl rfl rfl (by decide) rfl rfl rfl hl.1 rfl (Nat.le_of_ble_eq_true rfl) dX10_sumOfSets_15 ⟨Nat.zero_le _, Nat.zero_le _⟩ (fun H locs hP hD hS => ?_)
  refine lv_pop hx hb dX10_sumOfSets_18 rfl ?_
  refine lv_aload_n hx hb dX10_sumOfSets_19 rfl (lv_at hl 1 rfl) ?_
  refine lv_iload hx hb dX10_sumOfSets_20 (lv_at hl 0 rfl) ?_
  obtain ⟨t_order_7, hf_8, h⟩ := bd_ok h
  refine ck_Vv (rest := []) (wn := [(q_t, .inr (9, [.ref q_t_z, .ref q_t_old, .ref q_t_past, .int t_states, .ref q_t_kept, .int t_isKept, .ref q_t_text, .int t_length, .ref q_t_order, .ref q_t_told, .int t_spot, .int t_toldRows, .ref q_t_rowsTaken, .ref q_t_columnsTaken, .ref q_t_ways, .ref q_t_scaled, .ref q_t_rowFactors, .ref q_t_columnFactors, .ref q_t_rest, .ref q_t_diagonals, .ref q_t_weights])), (q_t_z, .inl (G.2 0, 50, .inl t_z)), (q_t_order, .inl (G.2 0, 7, .inl t_order_7)), (q_t_rowsTaken, .inl (G.2 0, 7, .inl t_rowsTaken_1)), (q_t_columnsTaken, .inl (G.2 0, 7, .inl t_columnsTaken_4))]) ⟨hx, hb, hml, hown, hts⟩ hK hP hD hS hA [0, 2] [1, 3, 4] [3, 0, 4, 1, 2] (c_X10_firstOrder l G q_t q_t_z q_t_old q_t_past q_t_kept q_t_text q_t_order q_t_told q_t_rowsTaken q_t_columnsTaken q_t_ways q_t_scaled q_t_rowFactors q_t_columnFactors q_t_rest q_t_diagonals q_t_weights _ t_states t_isKept t_length t_spot t_toldRows t_order r_2 _ hf_8) (cwV 1 hts gX10_sumOfSets_X10_firstOrder rfl rfl rfl (by decide +kernel) ⟨Nat.le_of_ble_eq_true rfl, Nat.le_of_ble_eq_true rfl⟩) rfl rfl rfl rfl rfl rfl (by decide) rfl rfl rfl hl.1 rfl (Nat.le_of_ble_eq_true rfl) dX10_sumOfSets_22 ⟨Nat.zero_le _, Nat.zero_le _⟩ (fun H locs hP hD hS => ?_)
  refine lv_lconst (v := 0) hx hb dX10_sumOfSets_25 (by decide) ?_
  refine lv_lstore (lv' := [(5, .long (0 : Int64)), (4, .int r_2), (0, .ref q_t), (1, .int a1), (2, .int a2), (3, .int a3)]) hx hb dX10_sumOfSets_26 hl (by decide) rfl (fun ls hl => ?_)
  refine lv_iconst (v := 1) hx hb dX10_sumOfSets_28 (by decide) ?_
  refine lv_istore (lv' := [(7, .int (1 : Int32)), (5, .long (0 : Int64)), (4, .int r_2), (0, .ref q_t), (1, .int a1), (2, .int a2), (3, .int a3)]) hx hb dX10_sumOfSets_29 hl (by decide) rfl (fun ls hl => ?_)
  obtain ⟨⟨x5_19, t_order_20⟩, hz_22, h⟩ := bd_ok h
  refine l_X10_sumOfSets_1 ⟨hx, hb, hml, hown, hts⟩ G hK hA q_t q_t_z q_t_old q_t_past q_t_kept q_t_text q_t_order q_t_told q_t_rowsTaken q_t_columnsTaken q_t_ways q_t_scaled q_t_rowFactors q_t_columnFactors q_t_rest q_t_diagonals q_t_weights a3 r_2 t_states t_isKept t_length t_spot t_toldRows t_z t_rowsTaken_1 t_columnsTaken_4 x5_19 t_order_20 ?_ FU (0 : Int64) (1 : Int32) t_order_7 hz_22 H locs ls hP hD hS (lv_sub hl [3, 6, 2, 1, 0] rfl)
  intro H locs ls hP hD hS hl
  refine lv_lload hx hb dX10_sumOfSets_81 (lv_at hl 0 rfl) ?_
  obtain ⟨rfl, rfl, rfl, rfl⟩ := sm4 h
  exact KR H locs ls 83 dX10_sumOfSets_83 hP hD hS
set_option maxHeartbeats 4000000 in
set_option maxRecDepth 100000 in
theorem c_X10_sumOfSets (l : Launch) (G : GT) (q_t q_t_z q_t_old q_t_past q_t_kept q_t_text q_t_order q_t_told q_t_rowsTaken q_t_columnsTaken q_t_ways q_t_scaled q_t_rowFactors q_t_columnFactors q_t_rest q_t_diagonals q_t_weights : Nat) (sz : Nat) (t_states : Int32) (t_isKept : Int32) (t_length : Int32) (t_spot : Int32) (t_toldRows : Int32) (t_z : Nat → Int32) (t_order : Nat → Int32) (t_rowsTaken : Nat → Int32) (t_columnsTaken : Nat → Int32) (a1 : Int32) (a2 : Int32) (a3 : Int32) (r : Int64) (o_t_order : Nat → Int32) (o_t_rowsTaken : Nat → Int32) (o_t_columnsTaken : Nat → Int32) (h : f_X10_sumOfSets t_z t_order t_rowsTaken t_columnsTaken a1 a2 a3 = some (r, o_t_order, o_t_rowsTaken, o_t_columnsTaken)) : Met l yX10_sumOfSets wsX10_sumOfSets ({ frames := 2, cells := 0, slots := 0, locals := 48 } : Room) (va_Pc [.ref q_t, .int a1, .int a2, .int a3] (pcW G [(q_t, .inr (9, [.ref q_t_z, .ref q_t_old, .ref q_t_past, .int t_states, .ref q_t_kept, .int t_isKept, .ref q_t_text, .int t_length, .ref q_t_order, .ref q_t_told, .int t_spot, .int t_toldRows, .ref q_t_rowsTaken, .ref q_t_columnsTaken, .ref q_t_ways, .ref q_t_scaled, .ref q_t_rowFactors, .ref q_t_columnFactors, .ref q_t_rest, .ref q_t_diagonals, .ref q_t_weights])), (q_t_z, .inl (G.2 0, 50, .inl t_z)), (q_t_order, .inl (G.2 0, 7, .inl t_order)), (q_t_rowsTaken, .inl (G.2 0, 7, .inl t_rowsTaken)), (q_t_columnsTaken, .inl (G.2 0, 7, .inl t_columnsTaken))] sz)) (va_Ql (fun r9 (_ : Unit) => r9 = r) (fun _ t => atW G (va_A [(q_t, .inr (9, [.ref q_t_z, .ref q_t_old, .ref q_t_past, .int t_states, .ref q_t_kept, .int t_isKept, .ref q_t_text, .int t_length, .ref q_t_order, .ref q_t_told, .int t_spot, .int t_toldRows, .ref q_t_rowsTaken, .ref q_t_columnsTaken, .ref q_t_ways, .ref q_t_scaled, .ref q_t_rowFactors, .ref q_t_columnFactors, .ref q_t_rest, .ref q_t_diagonals, .ref q_t_weights])), (q_t_z, .inl (G.2 0, 50, .inl t_z)), (q_t_order, .inl (G.2 0, 7, .inl t_order)), (q_t_rowsTaken, .inl (G.2 0, 7, .inl t_rowsTaken)), (q_t_columnsTaken, .inl (G.2 0, 7, .inl t_columnsTaken))] sz) [(q_t, .inr (9, [.ref q_t_z, .ref q_t_old, .ref q_t_past, .int t_states, .ref q_t_kept, .int t_isKept, .ref q_t_text, .int t_length, .ref q_t_order, .ref q_t_told, .int t_spot, .int t_toldRows, .ref q_t_rowsTaken, .ref q_t_columnsTaken, .ref q_t_ways, .ref q_t_scaled, .ref q_t_rowFactors, .ref q_t_columnFactors, .ref q_t_rest, .ref q_t_diagonals, .ref q_t_weights])), (q_t_z, .inl (G.2 0, 50, .inl t_z)), (q_t_order, .inl (G.2 0, 7, .inl o_t_order)), (q_t_rowsTaken, .inl (G.2 0, 7, .inl o_t_rowsTaken)), (q_t_columnsTaken, .inl (G.2 0, 7, .inl o_t_columnsTaken))] t) (va_A [(q_t, .inr (9, [.ref q_t_z, .ref q_t_old, .ref q_t_past, .int t_states, .ref q_t_kept, .int t_isKept, .ref q_t_text, .int t_length, .ref q_t_order, .ref q_t_told, .int t_spot, .int t_toldRows, .ref q_t_rowsTaken, .ref q_t_columnsTaken, .ref q_t_ways, .ref q_t_scaled, .ref q_t_rowFactors, .ref q_t_columnFactors, .ref q_t_rest, .ref q_t_diagonals, .ref q_t_weights])), (q_t_z, .inl (G.2 0, 50, .inl t_z)), (q_t_order, .inl (G.2 0, 7, .inl t_order)), (q_t_rowsTaken, .inl (G.2 0, 7, .inl t_rowsTaken)), (q_t_columnsTaken, .inl (G.2 0, 7, .inl t_columnsTaken))] sz)) 0 0 (va_A [(q_t, .inr (9, [.ref q_t_z, .ref q_t_old, .ref q_t_past, .int t_states, .ref q_t_kept, .int t_isKept, .ref q_t_text, .int t_length, .ref q_t_order, .ref q_t_told, .int t_spot, .int t_toldRows, .ref q_t_rowsTaken, .ref q_t_columnsTaken, .ref q_t_ways, .ref q_t_scaled, .ref q_t_rowFactors, .ref q_t_columnFactors, .ref q_t_rest, .ref q_t_diagonals, .ref q_t_weights])), (q_t_z, .inl (G.2 0, 50, .inl t_z)), (q_t_order, .inl (G.2 0, 7, .inl t_order)), (q_t_rowsTaken, .inl (G.2 0, 7, .inl t_rowsTaken)), (q_t_columnsTaken, .inl (G.2 0, 7, .inl t_columnsTaken))] sz) := by
  refine Met.ofW (cc := cX10_sumOfSets) (maxL := 10) (ret := (some .long)) (by decide) rfl ?_
  intro p e s m args below meth c s₁ B hml hv
  obtain ⟨rfl, hsz, hP, hK, hD0⟩ := hv
  subst hsz
  have hD := hD0.self (sz := s.heap.size)
  generalize hAe : va_A [(q_t, .inr (9, [.ref q_t_z, .ref q_t_old, .ref q_t_past, .int t_states, .ref q_t_kept, .int t_isKept, .ref q_t_text, .int t_length, .ref q_t_order, .ref q_t_told, .int t_spot, .int t_toldRows, .ref q_t_rowsTaken, .ref q_t_columnsTaken, .ref q_t_ways, .ref q_t_scaled, .ref q_t_rowFactors, .ref q_t_columnFactors, .ref q_t_rest, .ref q_t_diagonals, .ref q_t_weights])), (q_t_z, .inl (G.2 0, 50, .inl t_z)), (q_t_order, .inl (G.2 0, 7, .inl t_order)), (q_t_rowsTaken, .inl (G.2 0, 7, .inl t_rowsTaken)), (q_t_columnsTaken, .inl (G.2 0, 7, .inl t_columnsTaken))] s.heap.size = A at hD ⊢
  have hA : ∀ q : Nat, s.heap.size ≤ q → A q := fun q h => by rw [← hAe]; exact Or.inr h
  have hl := lv_entry ([.ref q_t, .int a1, .int a2, .int a3]) (n := 10) (Nat.le_of_ble_eq_true rfl)
  rw [lg_entry_eq]
  refine k_X10_sumOfSets ⟨B.exec, B.bytes, hml, findClass_of_methodNamed B.named, atoms_spec (ws := wsX10_sumOfSets) B.pre⟩ G hK hA q_t q_t_z q_t_old q_t_past q_t_kept q_t_text q_t_order q_t_told q_t_rowsTaken q_t_columnsTaken q_t_ways q_t_scaled q_t_rowFactors q_t_columnFactors q_t_rest q_t_diagonals q_t_weights _ _ _ _ _ _ _ _ _ _ _ _ _ _ _ _ h ?_ _ _ _ hP hD va_S.rf hl
  intro H locs ls pc hd hP hD hS
  exact W.lret B.exec B.bytes B.returns (fun t ht hW => ⟨⟨r, (), rfl, rfl, by rw [ht]; exact hP, hD⟩, hS.F ht⟩) hS.2.2 hd B.notSynchronized
set_option maxRecDepth 20000 in
theorem wd_X10_all_1 : Cond.fieldLink RX10 7 "PermanentDeskModel" "z" "[I" ∈ wsX10_all := List.mem_of_getElem? (i := 1) (by decide +kernel)
set_option maxRecDepth 20000 in
theorem wi_X10_all_X10 : ∀ w ∈ u_ws RX10 TX10 21, w ∈ wsX10_all := by decide +kernel
def f_X10_all (t_z : Nat → Int32) : Option Int32 :=
  gd (okI (49 : Int32) 50) (
  some (((1 : Int32) <<< ((t_z (49 : Int32).toNatClampNeg) &&& 31)) - (1 : Int32)))
set_option maxHeartbeats 4000000 in
set_option maxRecDepth 100000 in
theorem k_X10_all {p : Program} {l : Launch} {e : Env} {s : State} {m : MethodId} {args : Array Value} {below : List Frame} {meth : Method} {c : Code} {Q : State → Prop} {A0 : Nat → Prop} {H0 : Heap} (C : CallFix p m c cX10_all 1 s args wsX10_all RX10) (G : GT) (hK : gK G s) (hA : ∀ q : Nat, H0.size ≤ q → A0 q) (q_t q_t_z q_t_old q_t_past q_t_kept q_t_text q_t_order q_t_told q_t_rowsTaken q_t_columnsTaken q_t_ways q_t_scaled q_t_rowFactors q_t_columnFactors q_t_rest q_t_diagonals q_t_weights : Nat) (t_states : Int32) (t_isKept : Int32) (t_length : Int32) (t_spot : Int32) (t_toldRows : Int32) (t_z : Nat → Int32) (r : Int32) (h : f_X10_all t_z = some r) (KR : ∀ (H : Heap) (locs : List Loc) (ls : Array Slot) (pc : Nat), decode cX10_all pc = .ok (.ireturn, 1) → va_P G.1 vwCl [(q_t, .inr (9, [.ref q_t_z, .ref q_t_old, .ref q_t_past, .int t_states, .ref q_t_kept, .int t_isKept, .ref q_t_text, .int t_length, .ref q_t_order, .ref q_t_told, .int t_spot, .int t_toldRows, .ref q_t_rowsTaken, .ref q_t_columnsTaken, .ref q_t_ways, .ref q_t_scaled, .ref q_t_rowFactors, .ref q_t_columnFactors, .ref q_t_rest, .ref q_t_diagonals, .ref q_t_weights])), (q_t_z, .inl (G.2 0, 50, .inl t_z))] H → va_D A0 [(q_t, .inr (9, [.ref q_t_z, .ref q_t_old, .ref q_t_past, .int t_states, .ref q_t_kept, .int t_isKept, .ref q_t_text, .int t_length, .ref q_t_order, .ref q_t_told, .int t_spot, .int t_toldRows, .ref q_t_rowsTaken, .ref q_t_columnsTaken, .ref q_t_ways, .ref q_t_scaled, .ref q_t_rowFactors, .ref q_t_columnFactors, .ref q_t_rest, .ref q_t_diagonals, .ref q_t_weights])), (q_t_z, .inl (G.2 0, 50, .inl t_z))] → va_S A0 H0 H locs → W p l e ({ frames := 0, cells := 0, slots := 0, locals := 0 } : Room) s m args below meth c H locs 0 0 Q (F0 m pc ls [.int r])) : ∀ (H : Heap) (locs : List Loc) (ls : Array Slot), va_P G.1 vwCl [(q_t, .inr (9, [.ref q_t_z, .ref q_t_old, .ref q_t_past, .int t_states, .ref q_t_kept, .int t_isKept, .ref q_t_text, .int t_length, .ref q_t_order, .ref q_t_told, .int t_spot, .int t_toldRows, .ref q_t_rowsTaken, .ref q_t_columnsTaken, .ref q_t_ways, .ref q_t_scaled, .ref q_t_rowFactors, .ref q_t_columnFactors, .ref q_t_rest, .ref q_t_diagonals, .ref q_t_weights])), (q_t_z, .inl (G.2 0, 50, .inl t_z))] H → va_D A0 [(q_t, .inr (9, [.ref q_t_z, .ref q_t_old, .ref q_t_past, .int t_states, .ref q_t_kept, .int t_isKept, .ref q_t_text, .int t_length, .ref q_t_order, .ref q_t_told, .int t_spot, .int t_toldRows, .ref q_t_rowsTaken, .ref q_t_columnsTaken, .ref q_t_ways, .ref q_t_scaled, .ref q_t_rowFactors, .ref q_t_columnFactors, .ref q_t_rest, .ref q_t_diagonals, .ref q_t_weights])), (q_t_z, .inl (G.2 0, 50, .inl t_z))] → va_S A0 H0 H locs → lv_has ls 1 [(0, .ref q_t)] → W p l e ({ frames := 0, cells := 0, slots := 0, locals := 0 } : Room) s m args below meth c H locs 0 0 Q (F0 m 0 ls []) := by
  obtain ⟨hx, hb, hml, hown, hts⟩ := C
  intro H locs ls hP hD hS hl
  rw [f_X10_all] at h
  refine lv_iconst (v := 1) hx hb dX10_all_0 (by decide) ?_
  refine lv_aload_n hx hb dX10_all_1 rfl (lv_at hl 0 rfl) ?_
  refine va_get (D := G.1) (ci := 9) (v := .ref q_t_z) (C := RX10) (T := TX10) (N := 21) hx hb hts wi_X10_all_X10 hown hK hP 0 rfl rfl 0 (by decide) (hts _ wd_X10_all_1) (fun _ h9 => h9) rfl dX10_all_2 ?_
  refine lv_bipush (v := 49) hx hb dX10_all_5 (by decide) ?_
  obtain ⟨g_1, h⟩ := gd_ok h
  refine va_iald (D := G.1) hx hb hK hP 1 0 rfl rfl g_1 dX10_all_7 ?_
  refine lv_ishl hx hb dX10_all_8 ?_
  refine lv_iconst (v := 1) hx hb dX10_all_9 (by decide) ?_
  refine lv_isub hx hb dX10_all_10 ?_
  obtain rfl := sm1 h
  exact KR H locs ls 11 dX10_all_11 hP hD hS
set_option maxHeartbeats 4000000 in
set_option maxRecDepth 100000 in
theorem c_X10_all (l : Launch) (G : GT) (q_t q_t_z q_t_old q_t_past q_t_kept q_t_text q_t_order q_t_told q_t_rowsTaken q_t_columnsTaken q_t_ways q_t_scaled q_t_rowFactors q_t_columnFactors q_t_rest q_t_diagonals q_t_weights : Nat) (sz : Nat) (t_states : Int32) (t_isKept : Int32) (t_length : Int32) (t_spot : Int32) (t_toldRows : Int32) (t_z : Nat → Int32) (r : Int32) (h : f_X10_all t_z = some r) : Met l yX10_all wsX10_all ({ frames := 0, cells := 0, slots := 0, locals := 0 } : Room) (va_Pc [.ref q_t] (pcW G [(q_t, .inr (9, [.ref q_t_z, .ref q_t_old, .ref q_t_past, .int t_states, .ref q_t_kept, .int t_isKept, .ref q_t_text, .int t_length, .ref q_t_order, .ref q_t_told, .int t_spot, .int t_toldRows, .ref q_t_rowsTaken, .ref q_t_columnsTaken, .ref q_t_ways, .ref q_t_scaled, .ref q_t_rowFactors, .ref q_t_columnFactors, .ref q_t_rest, .ref q_t_diagonals, .ref q_t_weights])), (q_t_z, .inl (G.2 0, 50, .inl t_z))] sz)) (va_Qi (fun r9 (_ : Unit) => r9 = r) (fun _ t => atW G (va_A [(q_t, .inr (9, [.ref q_t_z, .ref q_t_old, .ref q_t_past, .int t_states, .ref q_t_kept, .int t_isKept, .ref q_t_text, .int t_length, .ref q_t_order, .ref q_t_told, .int t_spot, .int t_toldRows, .ref q_t_rowsTaken, .ref q_t_columnsTaken, .ref q_t_ways, .ref q_t_scaled, .ref q_t_rowFactors, .ref q_t_columnFactors, .ref q_t_rest, .ref q_t_diagonals, .ref q_t_weights])), (q_t_z, .inl (G.2 0, 50, .inl t_z))] sz) [(q_t, .inr (9, [.ref q_t_z, .ref q_t_old, .ref q_t_past, .int t_states, .ref q_t_kept, .int t_isKept, .ref q_t_text, .int t_length, .ref q_t_order, .ref q_t_told, .int t_spot, .int t_toldRows, .ref q_t_rowsTaken, .ref q_t_columnsTaken, .ref q_t_ways, .ref q_t_scaled, .ref q_t_rowFactors, .ref q_t_columnFactors, .ref q_t_rest, .ref q_t_diagonals, .ref q_t_weights])), (q_t_z, .inl (G.2 0, 50, .inl t_z))] t) (va_A [(q_t, .inr (9, [.ref q_t_z, .ref q_t_old, .ref q_t_past, .int t_states, .ref q_t_kept, .int t_isKept, .ref q_t_text, .int t_length, .ref q_t_order, .ref q_t_told, .int t_spot, .int t_toldRows, .ref q_t_rowsTaken, .ref q_t_columnsTaken, .ref q_t_ways, .ref q_t_scaled, .ref q_t_rowFactors, .ref q_t_columnFactors, .ref q_t_rest, .ref q_t_diagonals, .ref q_t_weights])), (q_t_z, .inl (G.2 0, 50, .inl t_z))] sz)) 0 0 (va_A [(q_t, .inr (9, [.ref q_t_z, .ref q_t_old, .ref q_t_past, .int t_states, .ref q_t_kept, .int t_isKept, .ref q_t_text, .int t_length, .ref q_t_order, .ref q_t_told, .int t_spot, .int t_toldRows, .ref q_t_rowsTaken, .ref q_t_columnsTaken, .ref q_t_ways, .ref q_t_scaled, .ref q_t_rowFactors, .ref q_t_columnFactors, .ref q_t_rest, .ref q_t_diagonals, .ref q_t_weights])), (q_t_z, .inl (G.2 0, 50, .inl t_z))] sz) := by
  refine Met.ofW (cc := cX10_all) (maxL := 1) (ret := (some .int)) (by decide) rfl ?_
  intro p e s m args below meth c s₁ B hml hv
  obtain ⟨rfl, hsz, hP, hK, hD0⟩ := hv
  subst hsz
  have hD := hD0.self (sz := s.heap.size)
  generalize hAe : va_A [(q_t, .inr (9, [.ref q_t_z, .ref q_t_old, .ref q_t_past, .int t_states, .ref q_t_kept, .int t_isKept, .ref q_t_text, .int t_length, .ref q_t_order, .ref q_t_told, .int t_spot, .int t_toldRows, .ref q_t_rowsTaken, .ref q_t_columnsTaken, .ref q_t_ways, .ref q_t_scaled, .ref q_t_rowFactors, .ref q_t_columnFactors, .ref q_t_rest, .ref q_t_diagonals, .ref q_t_weights])), (q_t_z, .inl (G.2 0, 50, .inl t_z))] s.heap.size = A at hD ⊢
  have hA : ∀ q : Nat, s.heap.size ≤ q → A q := fun q h => by rw [← hAe]; exact Or.inr h
  have hl := lv_entry ([.ref q_t]) (n := 1) (Nat.le_of_ble_eq_true rfl)
  rw [lg_entry_eq]
  refine k_X10_all ⟨B.exec, B.bytes, hml, findClass_of_methodNamed B.named, atoms_spec (ws := wsX10_all) B.pre⟩ G hK hA q_t q_t_z q_t_old q_t_past q_t_kept q_t_text q_t_order q_t_told q_t_rowsTaken q_t_columnsTaken q_t_ways q_t_scaled q_t_rowFactors q_t_columnFactors q_t_rest q_t_diagonals q_t_weights _ _ _ _ _ _ _ h ?_ _ _ _ hP hD va_S.rf hl
  intro H locs ls pc hd hP hD hS
  exact W.iret B.exec B.bytes B.returns (fun t ht hW => ⟨⟨r, (), rfl, rfl, by rw [ht]; exact hP, hD⟩, hS.F ht⟩) hS.2.2 hd B.notSynchronized
def f_X10_permanent (t_z : Nat → Int32) (t_order : Nat → Int32) (t_rowsTaken : Nat → Int32) (t_columnsTaken : Nat → Int32) : Option (Int64 × (Nat → Int32) × (Nat → Int32) × (Nat → Int32)) :=
  (f_X10_all t_z).bind (fun r_1 =>
  (f_X10_all t_z).bind (fun r_3 =>
  (f_X10_sumOfSets t_z t_order t_rowsTaken t_columnsTaken r_1 r_3 (0 : Int32)).bind (fun (r_8, t_order_5, t_rowsTaken_6, t_columnsTaken_7) =>
  some (r_8, t_order_5, t_rowsTaken_6, t_columnsTaken_7))))
set_option maxHeartbeats 4000000 in
set_option maxRecDepth 100000 in
theorem k_X10_permanent {p : Program} {l : Launch} {e : Env} {s : State} {m : MethodId} {args : Array Value} {below : List Frame} {meth : Method} {c : Code} {Q : State → Prop} {A0 : Nat → Prop} {H0 : Heap} (C : CallFix p m c cX10_permanent 1 s args wsX10_permanent RX10) (G : GT) (hK : gK G s) (hA : ∀ q : Nat, H0.size ≤ q → A0 q) (q_t q_t_z q_t_old q_t_past q_t_kept q_t_text q_t_order q_t_told q_t_rowsTaken q_t_columnsTaken q_t_ways q_t_scaled q_t_rowFactors q_t_columnFactors q_t_rest q_t_diagonals q_t_weights : Nat) (t_states : Int32) (t_isKept : Int32) (t_length : Int32) (t_spot : Int32) (t_toldRows : Int32) (t_z : Nat → Int32) (t_order : Nat → Int32) (t_rowsTaken : Nat → Int32) (t_columnsTaken : Nat → Int32) (r : Int64) (o_t_order : Nat → Int32) (o_t_rowsTaken : Nat → Int32) (o_t_columnsTaken : Nat → Int32) (h : f_X10_permanent t_z t_order t_rowsTaken t_columnsTaken = some (r, o_t_order, o_t_rowsTaken, o_t_columnsTaken)) (KR : ∀ (H : Heap) (locs : List Loc) (ls : Array Slot) (pc : Nat), decode cX10_permanent pc = .ok (.lreturn, 1) → va_P G.1 vwCl [(q_t, .inr (9, [.ref q_t_z, .ref q_t_old, .ref q_t_past, .int t_states, .ref q_t_kept, .int t_isKept, .ref q_t_text, .int t_length, .ref q_t_order, .ref q_t_told, .int t_spot, .int t_toldRows, .ref q_t_rowsTaken, .ref q_t_columnsTaken, .ref q_t_ways, .ref q_t_scaled, .ref q_t_rowFactors, .ref q_t_columnFactors, .ref q_t_rest, .ref q_t_diagonals, .ref q_t_weights])), (q_t_z, .inl (G.2 0, 50, .inl t_z)), (q_t_order, .inl (G.2 0, 7, .inl o_t_order)), (q_t_rowsTaken, .inl (G.2 0, 7, .inl o_t_rowsTaken)), (q_t_columnsTaken, .inl (G.2 0, 7, .inl o_t_columnsTaken))] H → va_D A0 [(q_t, .inr (9, [.ref q_t_z, .ref q_t_old, .ref q_t_past, .int t_states, .ref q_t_kept, .int t_isKept, .ref q_t_text, .int t_length, .ref q_t_order, .ref q_t_told, .int t_spot, .int t_toldRows, .ref q_t_rowsTaken, .ref q_t_columnsTaken, .ref q_t_ways, .ref q_t_scaled, .ref q_t_rowFactors, .ref q_t_columnFactors, .ref q_t_rest, .ref q_t_diagonals, .ref q_t_weights])), (q_t_z, .inl (G.2 0, 50, .inl t_z)), (q_t_order, .inl (G.2 0, 7, .inl o_t_order)), (q_t_rowsTaken, .inl (G.2 0, 7, .inl o_t_rowsTaken)), (q_t_columnsTaken, .inl (G.2 0, 7, .inl o_t_columnsTaken))] → va_S A0 H0 H locs → W p l e ({ frames := 3, cells := 0, slots := 0, locals := 77 } : Room) s m args below meth c H locs 0 0 Q (F0 m pc ls [.long r])) : ∀ (H : Heap) (locs : List Loc) (ls : Array Slot), va_P G.1 vwCl [(q_t, .inr (9, [.ref q_t_z, .ref q_t_old, .ref q_t_past, .int t_states, .ref q_t_kept, .int t_isKept, .ref q_t_text, .int t_length, .ref q_t_order, .ref q_t_told, .int t_spot, .int t_toldRows, .ref q_t_rowsTaken, .ref q_t_columnsTaken, .ref q_t_ways, .ref q_t_scaled, .ref q_t_rowFactors, .ref q_t_columnFactors, .ref q_t_rest, .ref q_t_diagonals, .ref q_t_weights])), (q_t_z, .inl (G.2 0, 50, .inl t_z)), (q_t_order, .inl (G.2 0, 7, .inl t_order)), (q_t_rowsTaken, .inl (G.2 0, 7, .inl t_rowsTaken)), (q_t_columnsTaken, .inl (G.2 0, 7, .inl t_columnsTaken))] H → va_D A0 [(q_t, .inr (9, [.ref q_t_z, .ref q_t_old, .ref q_t_past, .int t_states, .ref q_t_kept, .int t_isKept, .ref q_t_text, .int t_length, .ref q_t_order, .ref q_t_told, .int t_spot, .int t_toldRows, .ref q_t_rowsTaken, .ref q_t_columnsTaken, .ref q_t_ways, .ref q_t_scaled, .ref q_t_rowFactors, .ref q_t_columnFactors, .ref q_t_rest, .ref q_t_diagonals, .ref q_t_weights])), (q_t_z, .inl (G.2 0, 50, .inl t_z)), (q_t_order, .inl (G.2 0, 7, .inl t_order)), (q_t_rowsTaken, .inl (G.2 0, 7, .inl t_rowsTaken)), (q_t_columnsTaken, .inl (G.2 0, 7, .inl t_columnsTaken))] → va_S A0 H0 H locs → lv_has ls 1 [(0, .ref q_t)] → W p l e ({ frames := 3, cells := 0, slots := 0, locals := 77 } : Room) s m args below meth c H locs 0 0 Q (F0 m 0 ls []) := by
  obtain ⟨hx, hb, hml, hown, hts⟩ := C
  intro H locs ls hP hD hS hl
  rw [f_X10_permanent] at h
  refine lv_aload_n hx hb dX10_permanent_0 rfl (lv_at hl 0 rfl) ?_
  refine lv_aload_n hx hb dX10_permanent_1 rfl (lv_at hl 0 rfl) ?_
  obtain ⟨r_1, hf_2, h⟩ := bd_ok h
  refine ck_Vi (rest := [.ref q_t]) (wn := [(q_t, .inr (9, [.ref q_t_z, .ref q_t_old, .ref q_t_past, .int t_states, .ref q_t_kept, .int t_isKept, .ref q_t_text, .int t_length, .ref q_t_order, .ref q_t_told, .int t_spot, .int t_toldRows, .ref q_t_rowsTaken, .ref q_t_columnsTaken, .ref q_t_ways, .ref q_t_scaled, .ref q_t_rowFactors, .ref q_t_columnFactors, .ref q_t_rest, .ref q_t_diagonals, .ref q_t_weights])), (q_t_z, .inl (G.2 0, 50, .inl t_z)), (q_t_order, .inl (G.2 0, 7, .inl t_order)), (q_t_rowsTaken, .inl (G.2 0, 7, .inl t_rowsTaken)), (q_t_columnsTaken, .inl (G.2 0, 7, .inl t_columnsTaken))]) ⟨hx, hb, hml, hown, hts⟩ hK hP hD hS hA [0, 1] [2, 3, 4] [3, 4, 0, 1, 2] (c_X10_all l G q_t q_t_z q_t_old q_t_past q_t_kept q_t_text q_t_order q_t_told q_t_rowsTaken q_t_columnsTaken q_t_ways q_t_scaled q_t_rowFactors q_t_columnFactors q_t_rest q_t_diagonals q_t_weights _ t_states t_isKept t_length t_spot t_toldRows t_z _ hf_2) (cwV 0 hts gX10_permanent_X10_all rfl rfl rfl (by decide +kernel) ⟨Nat.le_of_ble_eq_true rfl, Nat.le_of_ble_eq_true rfl⟩) rfl rfl rfl rfl rfl rfl (by decide) rfl rfl rfl hl.1 rfl (Nat.le_of_ble_eq_true rfl) dX10_permanent_2 ⟨Nat.zero_le _, Nat.zero_le _⟩ (fun H locs hP hD hS => ?_)
  refine lv_aload_n hx hb dX10_permanent_5 rfl (lv_at hl 0 rfl) ?_
  obtain ⟨r_3, hf_4, h⟩ := bd_ok h
  refine ck_Vi (rest := [.int r_1, .ref q_t]) (wn := [(q_t, .inr (9, [.ref q_t_z, .ref q_t_old, .ref q_t_past, .int t_states, .ref q_t_kept, .int t_isKept, .ref q_t_text, .int t_length, .ref q_t_order, .ref q_t_told, .int t_spot, .int t_toldRows, .ref q_t_rowsTaken, .ref q_t_columnsTaken, .ref q_t_ways, .ref q_t_scaled, .ref q_t_rowFactors, .ref q_t_columnFactors, .ref q_t_rest, .ref q_t_diagonals, .ref q_t_weights])), (q_t_z, .inl (G.2 0, 50, .inl t_z)), (q_t_order, .inl (G.2 0, 7, .inl t_order)), (q_t_rowsTaken, .inl (G.2 0, 7, .inl t_rowsTaken)), (q_t_columnsTaken, .inl (G.2 0, 7, .inl t_columnsTaken))]) ⟨hx, hb, hml, hown, hts⟩ hK hP hD hS hA [0, 1] [2, 3, 4] [3, 4, 0, 1, 2] (c_X10_all l G q_t q_t_z q_t_old q_t_past q_t_kept q_t_text q_t_order q_t_told q_t_rowsTaken q_t_columnsTaken q_t_ways q_t_scaled q_t_rowFactors q_t_columnFactors q_t_rest q_t_diagonals q_t_weights _ t_states t_isKept t_length t_spot t_toldRows t_z _ hf_4) (cwV 0 hts gX10_permanent_X10_all rfl rfl rfl (by decide +kernel) ⟨Nat.le_of_ble_eq_true rfl, Nat.le_of_ble_eq_true rfl⟩) rfl rfl rfl rfl rfl rfl (by decide) rfl rfl rfl hl.1 rfl (Nat.le_of_ble_eq_true rfl) dX10_permanent_6 ⟨Nat.zero_le _, Nat.zero_le _⟩ (fun H locs hP hD hS => ?_)
  refine lv_iconst (v := 0) hx hb dX10_permanent_9 (by decide) ?_
  obtain ⟨⟨r_8, t_order_5, t_rowsTaken_6, t_columnsTaken_7⟩, hf_9, h⟩ := bd_ok h
  refine ck_Vl (rest := []) (wn := [(q_t, .inr (9, [.ref q_t_z, .ref q_t_old, .ref q_t_past, .int t_states, .ref q_t_kept, .int t_isKept, .ref q_t_text, .int t_length, .ref q_t_order, .ref q_t_told, .int t_spot, .int t_toldRows, .ref q_t_rowsTaken, .ref q_t_columnsTaken, .ref q_t_ways, .ref q_t_scaled, .ref q_t_rowFactors, .ref q_t_columnFactors, .ref q_t_rest, .ref q_t_diagonals, .ref q_t_weights])), (q_t_z, .inl (G.2 0, 50, .inl t_z)), (q_t_order, .inl (G.2 0, 7, .inl t_order_5)), (q_t_rowsTaken, .inl (G.2 0, 7, .inl t_rowsTaken_6)), (q_t_columnsTaken, .inl (G.2 0, 7, .inl t_columnsTaken_7))]) ⟨hx, hb, hml, hown, hts⟩ hK hP hD hS hA [0, 1, 2, 3, 4] [] [0, 1, 2, 3, 4] (c_X10_sumOfSets l G q_t q_t_z q_t_old q_t_past q_t_kept q_t_text q_t_order q_t_told q_t_rowsTaken q_t_columnsTaken q_t_ways q_t_scaled q_t_rowFactors q_t_columnFactors q_t_rest q_t_diagonals q_t_weights _ t_states t_isKept t_length t_spot t_toldRows t_z t_order t_rowsTaken t_columnsTaken r_1 r_3 (0 : Int32) _ _ _ _ hf_9) (cwV 3 hts gX10_permanent_X10_sumOfSets rfl rfl rfl (by decide +kernel) ⟨Nat.le_of_ble_eq_true rfl, Nat.le_of_ble_eq_true rfl⟩) rfl rfl rfl rfl rfl rfl (by decide) rfl rfl rfl hl.1 rfl (Nat.le_of_ble_eq_true rfl) dX10_permanent_10 ⟨Nat.zero_le _, Nat.zero_le _⟩ (fun H locs hP hD hS => ?_)
  obtain ⟨rfl, rfl, rfl, rfl⟩ := sm4 h
  exact KR H locs ls 13 dX10_permanent_13 hP hD hS
set_option maxHeartbeats 4000000 in
set_option maxRecDepth 100000 in
theorem c_X10_permanent (l : Launch) (G : GT) (q_t q_t_z q_t_old q_t_past q_t_kept q_t_text q_t_order q_t_told q_t_rowsTaken q_t_columnsTaken q_t_ways q_t_scaled q_t_rowFactors q_t_columnFactors q_t_rest q_t_diagonals q_t_weights : Nat) (sz : Nat) (t_states : Int32) (t_isKept : Int32) (t_length : Int32) (t_spot : Int32) (t_toldRows : Int32) (t_z : Nat → Int32) (t_order : Nat → Int32) (t_rowsTaken : Nat → Int32) (t_columnsTaken : Nat → Int32) (r : Int64) (o_t_order : Nat → Int32) (o_t_rowsTaken : Nat → Int32) (o_t_columnsTaken : Nat → Int32) (h : f_X10_permanent t_z t_order t_rowsTaken t_columnsTaken = some (r, o_t_order, o_t_rowsTaken, o_t_columnsTaken)) : Met l yX10_permanent wsX10_permanent ({ frames := 3, cells := 0, slots := 0, locals := 77 } : Room) (va_Pc [.ref q_t] (pcW G [(q_t, .inr (9, [.ref q_t_z, .ref q_t_old, .ref q_t_past, .int t_states, .ref q_t_kept, .int t_isKept, .ref q_t_text, .int t_length, .ref q_t_order, .ref q_t_told, .int t_spot, .int t_toldRows, .ref q_t_rowsTaken, .ref q_t_columnsTaken, .ref q_t_ways, .ref q_t_scaled, .ref q_t_rowFactors, .ref q_t_columnFactors, .ref q_t_rest, .ref q_t_diagonals, .ref q_t_weights])), (q_t_z, .inl (G.2 0, 50, .inl t_z)), (q_t_order, .inl (G.2 0, 7, .inl t_order)), (q_t_rowsTaken, .inl (G.2 0, 7, .inl t_rowsTaken)), (q_t_columnsTaken, .inl (G.2 0, 7, .inl t_columnsTaken))] sz)) (va_Ql (fun r9 (_ : Unit) => r9 = r) (fun _ t => atW G (va_A [(q_t, .inr (9, [.ref q_t_z, .ref q_t_old, .ref q_t_past, .int t_states, .ref q_t_kept, .int t_isKept, .ref q_t_text, .int t_length, .ref q_t_order, .ref q_t_told, .int t_spot, .int t_toldRows, .ref q_t_rowsTaken, .ref q_t_columnsTaken, .ref q_t_ways, .ref q_t_scaled, .ref q_t_rowFactors, .ref q_t_columnFactors, .ref q_t_rest, .ref q_t_diagonals, .ref q_t_weights])), (q_t_z, .inl (G.2 0, 50, .inl t_z)), (q_t_order, .inl (G.2 0, 7, .inl t_order)), (q_t_rowsTaken, .inl (G.2 0, 7, .inl t_rowsTaken)), (q_t_columnsTaken, .inl (G.2 0, 7, .inl t_columnsTaken))] sz) [(q_t, .inr (9, [.ref q_t_z, .ref q_t_old, .ref q_t_past, .int t_states, .ref q_t_kept, .int t_isKept, .ref q_t_text, .int t_length, .ref q_t_order, .ref q_t_told, .int t_spot, .int t_toldRows, .ref q_t_rowsTaken, .ref q_t_columnsTaken, .ref q_t_ways, .ref q_t_scaled, .ref q_t_rowFactors, .ref q_t_columnFactors, .ref q_t_rest, .ref q_t_diagonals, .ref q_t_weights])), (q_t_z, .inl (G.2 0, 50, .inl t_z)), (q_t_order, .inl (G.2 0, 7, .inl o_t_order)), (q_t_rowsTaken, .inl (G.2 0, 7, .inl o_t_rowsTaken)), (q_t_columnsTaken, .inl (G.2 0, 7, .inl o_t_columnsTaken))] t) (va_A [(q_t, .inr (9, [.ref q_t_z, .ref q_t_old, .ref q_t_past, .int t_states, .ref q_t_kept, .int t_isKept, .ref q_t_text, .int t_length, .ref q_t_order, .ref q_t_told, .int t_spot, .int t_toldRows, .ref q_t_rowsTaken, .ref q_t_columnsTaken, .ref q_t_ways, .ref q_t_scaled, .ref q_t_rowFactors, .ref q_t_columnFactors, .ref q_t_rest, .ref q_t_diagonals, .ref q_t_weights])), (q_t_z, .inl (G.2 0, 50, .inl t_z)), (q_t_order, .inl (G.2 0, 7, .inl t_order)), (q_t_rowsTaken, .inl (G.2 0, 7, .inl t_rowsTaken)), (q_t_columnsTaken, .inl (G.2 0, 7, .inl t_columnsTaken))] sz)) 0 0 (va_A [(q_t, .inr (9, [.ref q_t_z, .ref q_t_old, .ref q_t_past, .int t_states, .ref q_t_kept, .int t_isKept, .ref q_t_text, .int t_length, .ref q_t_order, .ref q_t_told, .int t_spot, .int t_toldRows, .ref q_t_rowsTaken, .ref q_t_columnsTaken, .ref q_t_ways, .ref q_t_scaled, .ref q_t_rowFactors, .ref q_t_columnFactors, .ref q_t_rest, .ref q_t_diagonals, .ref q_t_weights])), (q_t_z, .inl (G.2 0, 50, .inl t_z)), (q_t_order, .inl (G.2 0, 7, .inl t_order)), (q_t_rowsTaken, .inl (G.2 0, 7, .inl t_rowsTaken)), (q_t_columnsTaken, .inl (G.2 0, 7, .inl t_columnsTaken))] sz) := by
  refine Met.ofW (cc := cX10_permanent) (maxL := 1) (ret := (some .long)) (by decide) rfl ?_
  intro p e s m args below meth c s₁ B hml hv
  obtain ⟨rfl, hsz, hP, hK, hD0⟩ := hv
  subst hsz
  have hD := hD0.self (sz := s.heap.size)
  generalize hAe : va_A [(q_t, .inr (9, [.ref q_t_z, .ref q_t_old, .ref q_t_past, .int t_states, .ref q_t_kept, .int t_isKept, .ref q_t_text, .int t_length, .ref q_t_order, .ref q_t_told, .int t_spot, .int t_toldRows, .ref q_t_rowsTaken, .ref q_t_columnsTaken, .ref q_t_ways, .ref q_t_scaled, .ref q_t_rowFactors, .ref q_t_columnFactors, .ref q_t_rest, .ref q_t_diagonals, .ref q_t_weights])), (q_t_z, .inl (G.2 0, 50, .inl t_z)), (q_t_order, .inl (G.2 0, 7, .inl t_order)), (q_t_rowsTaken, .inl (G.2 0, 7, .inl t_rowsTaken)), (q_t_columnsTaken, .inl (G.2 0, 7, .inl t_columnsTaken))] s.heap.size = A at hD ⊢
  have hA : ∀ q : Nat, s.heap.size ≤ q → A q := fun q h => by rw [← hAe]; exact Or.inr h
  have hl := lv_entry ([.ref q_t]) (n := 1) (Nat.le_of_ble_eq_true rfl)
  rw [lg_entry_eq]
  refine k_X10_permanent ⟨B.exec, B.bytes, hml, findClass_of_methodNamed B.named, atoms_spec (ws := wsX10_permanent) B.pre⟩ G hK hA q_t q_t_z q_t_old q_t_past q_t_kept q_t_text q_t_order q_t_told q_t_rowsTaken q_t_columnsTaken q_t_ways q_t_scaled q_t_rowFactors q_t_columnFactors q_t_rest q_t_diagonals q_t_weights _ _ _ _ _ _ _ _ _ _ _ _ _ h ?_ _ _ _ hP hD va_S.rf hl
  intro H locs ls pc hd hP hD hS
  exact W.lret B.exec B.bytes B.returns (fun t ht hW => ⟨⟨r, (), rfl, rfl, by rw [ht]; exact hP, hD⟩, hS.F ht⟩) hS.2.2 hd B.notSynchronized
set_option maxRecDepth 20000 in
theorem wd_X10_pairsTurned_1 : Cond.fieldLink RX10 7 "PermanentDeskModel" "z" "[I" ∈ wsX10_pairsTurned := List.mem_of_getElem? (i := 1) (by decide +kernel)
set_option maxRecDepth 20000 in
theorem wi_X10_pairsTurned_X10 : ∀ w ∈ u_ws RX10 TX10 21, w ∈ wsX10_pairsTurned := by decide +kernel
set_option maxRecDepth 20000 in
theorem wd_X10_pairsTurned_2 : Cond.fieldLink RX10 25 "PermanentDeskModel" "order" "[I" ∈ wsX10_pairsTurned := List.mem_of_getElem? (i := 2) (by decide +kernel)
def f_X10_pairsTurned_L2 (x2 : Int32) (t_z : Nat → Int32) (t_order : Nat → Int32) : (Int32 × Int32) → Option ((Int32 × Int32) ⊕ Int32)
  | (x1, x3) =>
    gd (okI (49 : Int32) 50) (
    if (t_z (49 : Int32).toNatClampNeg) ≤ x3 then
      some (.inr x1)
    else
      gd (okI x2 7) (
      gd (okI x3 7) (
      if (t_order x2.toNatClampNeg) ≤ (t_order x3.toNatClampNeg) then
        pl ((x1 + (0 : Int32)) : Int32) (fun x1_9 =>
        pl ((x3 + (1 : Int32)) : Int32) (fun x3_10 =>
        some (.inl (x1_9, x3_10))))
      else
        pl ((x1 + (1 : Int32)) : Int32) (fun x1_11 =>
        pl ((x3 + (1 : Int32)) : Int32) (fun x3_12 =>
        some (.inl (x1_11, x3_12)))))))
def f_X10_pairsTurned_L1 (t_z : Nat → Int32) (t_order : Nat → Int32) : (Int32 × Int32) → Option ((Int32 × Int32) ⊕ Int32)
  | (x1, x2) =>
    gd (okI (49 : Int32) 50) (
    if (t_z (49 : Int32).toNatClampNeg) ≤ x2 then
      some (.inr x1)
    else
      pl ((x2 + (1 : Int32)) : Int32) (fun x3_3 =>
      (lpN (f_X10_pairsTurned_L2 x2 t_z t_order) FU (x1, x3_3)).bind (fun x1_13 =>
      pl ((x2 + (1 : Int32)) : Int32) (fun x2_16 =>
      some (.inl (x1_13, x2_16))))))
def f_X10_pairsTurned (t_z : Nat → Int32) (t_order : Nat → Int32) : Option Int32 :=
  (lpN (f_X10_pairsTurned_L1 t_z t_order) FU ((0 : Int32), (0 : Int32))).bind (fun x1_17 =>
  some x1_17)
set_option maxHeartbeats 4000000 in
set_option maxRecDepth 100000 in
theorem l_X10_pairsTurned_2 {p : Program} {l : Launch} {e : Env} {s : State} {m : MethodId} {args : Array Value} {below : List Frame} {meth : Method} {c : Code} {Q : State → Prop} {A0 : Nat → Prop} {H0 : Heap} (C : CallFix p m c cX10_pairsTurned 4 s args wsX10_pairsTurned RX10) (G : GT) (hK : gK G s) (hA : ∀ q : Nat, H0.size ≤ q → A0 q) (q_t q_t_z q_t_old q_t_past q_t_kept q_t_text q_t_order q_t_told q_t_rowsTaken q_t_columnsTaken q_t_ways q_t_scaled q_t_rowFactors q_t_columnFactors q_t_rest q_t_diagonals q_t_weights : Nat) (x2 : Int32) (t_states : Int32) (t_isKept : Int32) (t_length : Int32) (t_spot : Int32) (t_toldRows : Int32) (t_z : Nat → Int32) (t_order : Nat → Int32) (E_x1 : Int32) (K : ∀ (H : Heap) (locs : List Loc) (ls : Array Slot), va_P G.1 vwCl [(q_t, .inr (9, [.ref q_t_z, .ref q_t_old, .ref q_t_past, .int t_states, .ref q_t_kept, .int t_isKept, .ref q_t_text, .int t_length, .ref q_t_order, .ref q_t_told, .int t_spot, .int t_toldRows, .ref q_t_rowsTaken, .ref q_t_columnsTaken, .ref q_t_ways, .ref q_t_scaled, .ref q_t_rowFactors, .ref q_t_columnFactors, .ref q_t_rest, .ref q_t_diagonals, .ref q_t_weights])), (q_t_z, .inl (G.2 0, 50, .inl t_z)), (q_t_order, .inl (G.2 0, 7, .inl t_order))] H → va_D A0 [(q_t, .inr (9, [.ref q_t_z, .ref q_t_old, .ref q_t_past, .int t_states, .ref q_t_kept, .int t_isKept, .ref q_t_text, .int t_length, .ref q_t_order, .ref q_t_told, .int t_spot, .int t_toldRows, .ref q_t_rowsTaken, .ref q_t_columnsTaken, .ref q_t_ways, .ref q_t_scaled, .ref q_t_rowFactors, .ref q_t_columnFactors, .ref q_t_rest, .ref q_t_diagonals, .ref q_t_weights])), (q_t_z, .inl (G.2 0, 50, .inl t_z)), (q_t_order, .inl (G.2 0, 7, .inl t_order))] → va_S A0 H0 H locs → lv_has ls 4 [(0, .ref q_t), (1, .int E_x1), (2, .int x2)] → W p l e ({ frames := 0, cells := 0, slots := 0, locals := 0 } : Room) s m args below meth c H locs 0 0 Q (F0 m 59 ls [])) : ∀ (n : Nat) (x1 : Int32) (x3 : Int32), lpN (f_X10_pairsTurned_L2 x2 t_z t_order) n (x1, x3) = some E_x1 → ∀ (H : Heap) (locs : List Loc) (ls : Array Slot), va_P G.1 vwCl [(q_t, .inr (9, [.ref q_t_z, .ref q_t_old, .ref q_t_past, .int t_states, .ref q_t_kept, .int t_isKept, .ref q_t_text, .int t_length, .ref q_t_order, .ref q_t_told, .int t_spot, .int t_toldRows, .ref q_t_rowsTaken, .ref q_t_columnsTaken, .ref q_t_ways, .ref q_t_scaled, .ref q_t_rowFactors, .ref q_t_columnFactors, .ref q_t_rest, .ref q_t_diagonals, .ref q_t_weights])), (q_t_z, .inl (G.2 0, 50, .inl t_z)), (q_t_order, .inl (G.2 0, 7, .inl t_order))] H → va_D A0 [(q_t, .inr (9, [.ref q_t_z, .ref q_t_old, .ref q_t_past, .int t_states, .ref q_t_kept, .int t_isKept, .ref q_t_text, .int t_length, .ref q_t_order, .ref q_t_told, .int t_spot, .int t_toldRows, .ref q_t_rowsTaken, .ref q_t_columnsTaken, .ref q_t_ways, .ref q_t_scaled, .ref q_t_rowFactors, .ref q_t_columnFactors, .ref q_t_rest, .ref q_t_diagonals, .ref q_t_weights])), (q_t_z, .inl (G.2 0, 50, .inl t_z)), (q_t_order, .inl (G.2 0, 7, .inl t_order))] → va_S A0 H0 H locs → lv_has ls 4 [(0, .ref q_t), (1, .int x1), (2, .int x2), (3, .int x3)] → W p l e ({ frames := 0, cells := 0, slots := 0, locals := 0 } : Room) s m args below meth c H locs 0 0 Q (F0 m 19 ls []) := by
  obtain ⟨hx, hb, hml, hown, hts⟩ := C
  intro n
  induction n with
  | zero => intro x1 x3 h; exact absurd h (fun h => lp_0 h)
  | succ n ih =>
    intro x1 x3 h H locs ls hP hD hS hl
    obtain ⟨y, h, hk⟩ := lp_s h
    rw [f_X10_pairsTurned_L2] at h
    refine lv_iload_n hx hb dX10_pairsTurned_19 rfl (lv_at hl 3 rfl) ?_
    refine lv_aload_n hx hb dX10_pairsTurned_20 rfl (lv_at hl 0 rfl) ?_
    refine va_get (D := G.1) (ci := 9) (v := .ref q_t_z) (C := RX10) (T := TX10) (N := 21) hx hb hts wi_X10_pairsTurned_X10 hown hK hP 0 rfl rfl 0 (by decide) (hts _ wd_X10_pairsTurned_1) (fun _ h9 => h9) rfl dX10_pairsTurned_21 ?_
    refine lv_bipush (v := 49) hx hb dX10_pairsTurned_24 (by decide) ?_
    obtain ⟨g_4, h⟩ := gd_ok h
    refine va_iald (D := G.1) hx hb hK hP 1 0 rfl rfl g_4 dX10_pairsTurned_26 ?_
    refine lv_icmp_ge (tgt := 59) hx hb dX10_pairsTurned_27 (by decide) (fun c_5 => ?_) (fun c_5 => ?_)
    · replace h := it_t h c_5
      obtain rfl := sm1 h
      obtain rfl := sm1 hk
      exact K H locs ls hP hD hS (lv_sub hl [0, 1, 2] rfl)
    · replace h := it_f h c_5
      refine lv_iload_n hx hb dX10_pairsTurned_30 rfl (lv_at hl 1 rfl) ?_
      refine lv_aload_n hx hb dX10_pairsTurned_31 rfl (lv_at hl 0 rfl) ?_
      refine va_get (D := G.1) (ci := 9) (v := .ref q_t_order) (C := RX10) (T := TX10) (N := 21) hx hb hts wi_X10_pairsTurned_X10 hown hK hP 0 rfl rfl 8 (by decide) (hts _ wd_X10_pairsTurned_2) (fun _ h9 => h9) rfl dX10_pairsTurned_32 ?_
      refine lv_iload_n hx hb dX10_pairsTurned_35 rfl (lv_at hl 2 rfl) ?_
      obtain ⟨g_6, h⟩ := gd_ok h
      refine va_iald (D := G.1) hx hb hK hP 2 0 rfl rfl g_6 dX10_pairsTurned_36 ?_
      refine lv_aload_n hx hb dX10_pairsTurned_37 rfl (lv_at hl 0 rfl) ?_
      refine va_get (D := G.1) (ci := 9) (v := .ref q_t_order) (C := RX10) (T := TX10) (N := 21) hx hb hts wi_X10_pairsTurned_X10 hown hK hP 0 rfl rfl 8 (by decide) (hts _ wd_X10_pairsTurned_2) (fun _ h9 => h9) rfl dX10_pairsTurned_38 ?_
      refine lv_iload_n hx hb dX10_pairsTurned_41 rfl (lv_at hl 3 rfl) ?_
      obtain ⟨g_7, h⟩ := gd_ok h
      refine va_iald (D := G.1) hx hb hK hP 2 0 rfl rfl g_7 dX10_pairsTurned_42 ?_
      refine lv_icmp_le (tgt := 50) hx hb dX10_pairsTurned_43 (by decide) (fun c_8 => ?_) (fun c_8 => ?_)
      · replace h := it_t h c_8
        refine lv_iconst (v := 0) hx hb dX10_pairsTurned_50 (by decide) ?_
        refine lv_iadd hx hb dX10_pairsTurned_51 ?_
        refine lv_topi (fun x1_9 ex1_9 => ?_)
        replace h := pl_v h ex1_9
        refine lv_istore_n (lv' := [(1, .int x1_9), (0, .ref q_t), (2, .int x2), (3, .int x3)]) hx hb dX10_pairsTurned_52 rfl hl (by decide) rfl (fun ls hl => ?_)
        obtain ⟨x3_10, ex3_10, h⟩ := pl_ok h
        refine lv_iinc (v := x3_10) (lv' := [(3, .int x3_10), (1, .int x1_9), (0, .ref q_t), (2, .int x2)]) hx hb dX10_pairsTurned_53 hl (k := 3) rfl (by rw [ex3_10]; rfl) (by decide) rfl (fun ls hl => ?_)
        refine lv_goto (tgt := 19) hx hb dX10_pairsTurned_56 (by decide) ?_
        obtain rfl := sm1 h
        exact ih x1_9 x3_10 hk H locs ls hP hD hS (lv_sub hl [2, 1, 3, 0] rfl)
      · replace h := it_f h c_8
        refine lv_iconst (v := 1) hx hb dX10_pairsTurned_46 (by decide) ?_
        refine lv_goto (tgt := 51) hx hb dX10_pairsTurned_47 (by decide) ?_
        refine lv_iadd hx hb dX10_pairsTurned_51 ?_
        refine lv_topi (fun x1_11 ex1_11 => ?_)
        replace h := pl_v h ex1_11
        refine lv_istore_n (lv' := [(1, .int x1_11), (0, .ref q_t), (2, .int x2), (3, .int x3)]) hx hb dX10_pairsTurned_52 rfl hl (by decide) rfl (fun ls hl => ?_)
        obtain ⟨x3_12, ex3_12, h⟩ := pl_ok h
        refine lv_iinc (v := x3_12) (lv' := [(3, .int x3_12), (1, .int x1_11), (0, .ref q_t), (2, .int x2)]) hx hb dX10_pairsTurned_53 hl (k := 3) rfl (by rw [ex3_12]; rfl) (by decide) rfl (fun ls hl => ?_)
        refine lv_goto (tgt := 19) hx hb dX10_pairsTurned_56 (by decide) ?_
        obtain rfl := sm1 h
        exact ih x1_11 x3_12 hk H locs ls hP hD hS (lv_sub hl [2, 1, 3, 0] rfl)
set_option maxHeartbeats 4000000 in
set_option maxRecDepth 100000 in
theorem l_X10_pairsTurned_1 {p : Program} {l : Launch} {e : Env} {s : State} {m : MethodId} {args : Array Value} {below : List Frame} {meth : Method} {c : Code} {Q : State → Prop} {A0 : Nat → Prop} {H0 : Heap} (C : CallFix p m c cX10_pairsTurned 4 s args wsX10_pairsTurned RX10) (G : GT) (hK : gK G s) (hA : ∀ q : Nat, H0.size ≤ q → A0 q) (q_t q_t_z q_t_old q_t_past q_t_kept q_t_text q_t_order q_t_told q_t_rowsTaken q_t_columnsTaken q_t_ways q_t_scaled q_t_rowFactors q_t_columnFactors q_t_rest q_t_diagonals q_t_weights : Nat) (t_states : Int32) (t_isKept : Int32) (t_length : Int32) (t_spot : Int32) (t_toldRows : Int32) (t_z : Nat → Int32) (t_order : Nat → Int32) (E_x1 : Int32) (K : ∀ (H : Heap) (locs : List Loc) (ls : Array Slot), va_P G.1 vwCl [(q_t, .inr (9, [.ref q_t_z, .ref q_t_old, .ref q_t_past, .int t_states, .ref q_t_kept, .int t_isKept, .ref q_t_text, .int t_length, .ref q_t_order, .ref q_t_told, .int t_spot, .int t_toldRows, .ref q_t_rowsTaken, .ref q_t_columnsTaken, .ref q_t_ways, .ref q_t_scaled, .ref q_t_rowFactors, .ref q_t_columnFactors, .ref q_t_rest, .ref q_t_diagonals, .ref q_t_weights])), (q_t_z, .inl (G.2 0, 50, .inl t_z)), (q_t_order, .inl (G.2 0, 7, .inl t_order))] H → va_D A0 [(q_t, .inr (9, [.ref q_t_z, .ref q_t_old, .ref q_t_past, .int t_states, .ref q_t_kept, .int t_isKept, .ref q_t_text, .int t_length, .ref q_t_order, .ref q_t_told, .int t_spot, .int t_toldRows, .ref q_t_rowsTaken, .ref q_t_columnsTaken, .ref q_t_ways, .ref q_t_scaled, .ref q_t_rowFactors, .ref q_t_columnFactors, .ref q_t_rest, .ref q_t_diagonals, .ref q_t_weights])), (q_t_z, .inl (G.2 0, 50, .inl t_z)), (q_t_order, .inl (G.2 0, 7, .inl t_order))] → va_S A0 H0 H locs → lv_has ls 4 [(1, .int E_x1)] → W p l e ({ frames := 0, cells := 0, slots := 0, locals := 0 } : Room) s m args below meth c H locs 0 0 Q (F0 m 65 ls [])) : ∀ (n : Nat) (x1 : Int32) (x2 : Int32), lpN (f_X10_pairsTurned_L1 t_z t_order) n (x1, x2) = some E_x1 → ∀ (H : Heap) (locs : List Loc) (ls : Array Slot), va_P G.1 vwCl [(q_t, .inr (9, [.ref q_t_z, .ref q_t_old, .ref q_t_past, .int t_states, .ref q_t_kept, .int t_isKept, .ref q_t_text, .int t_length, .ref q_t_order, .ref q_t_told, .int t_spot, .int t_toldRows, .ref q_t_rowsTaken, .ref q_t_columnsTaken, .ref q_t_ways, .ref q_t_scaled, .ref q_t_rowFactors, .ref q_t_columnFactors, .ref q_t_rest, .ref q_t_diagonals, .ref q_t_weights])), (q_t_z, .inl (G.2 0, 50, .inl t_z)), (q_t_order, .inl (G.2 0, 7, .inl t_order))] H → va_D A0 [(q_t, .inr (9, [.ref q_t_z, .ref q_t_old, .ref q_t_past, .int t_states, .ref q_t_kept, .int t_isKept, .ref q_t_text, .int t_length, .ref q_t_order, .ref q_t_told, .int t_spot, .int t_toldRows, .ref q_t_rowsTaken, .ref q_t_columnsTaken, .ref q_t_ways, .ref q_t_scaled, .ref q_t_rowFactors, .ref q_t_columnFactors, .ref q_t_rest, .ref q_t_diagonals, .ref q_t_weights])), (q_t_z, .inl (G.2 0, 50, .inl t_z)), (q_t_order, .inl (G.2 0, 7, .inl t_order))] → va_S A0 H0 H locs → lv_has ls 4 [(0, .ref q_t), (1, .int x1), (2, .int x2)] → W p l e ({ frames := 0, cells := 0, slots := 0, locals := 0 } : Room) s m args below meth c H locs 0 0 Q (F0 m 4 ls []) := by
  obtain ⟨hx, hb, hml, hown, hts⟩ := C
  intro n
  induction n with
  | zero => intro x1 x2 h; exact absurd h (fun h => lp_0 h)
  | succ n ih =>
    intro x1 x2 h H locs ls hP hD hS hl
    obtain ⟨y, h, hk⟩ := lp_s h
    rw [f_X10_pairsTurned_L1] at h
    refine lv_iload_n hx hb dX10_pairsTurned_4 rfl (lv_at hl 2 rfl) ?_
    refine lv_aload_n hx hb dX10_pairsTurned_5 rfl (lv_at hl 0 rfl) ?_
    refine va_get (D := G.1) (ci := 9) (v := .ref q_t_z) (C := RX10) (T := TX10) (N := 21) hx hb hts wi_X10_pairsTurned_X10 hown hK hP 0 rfl rfl 0 (by decide) (hts _ wd_X10_pairsTurned_1) (fun _ h9 => h9) rfl dX10_pairsTurned_6 ?_
    refine lv_bipush (v := 49) hx hb dX10_pairsTurned_9 (by decide) ?_
    obtain ⟨g_1, h⟩ := gd_ok h
    refine va_iald (D := G.1) hx hb hK hP 1 0 rfl rfl g_1 dX10_pairsTurned_11 ?_
    refine lv_icmp_ge (tgt := 65) hx hb dX10_pairsTurned_12 (by decide) (fun c_2 => ?_) (fun c_2 => ?_)
    · replace h := it_t h c_2
      obtain rfl := sm1 h
      obtain rfl := sm1 hk
      exact K H locs ls hP hD hS (lv_sub hl [1] rfl)
    · replace h := it_f h c_2
      refine lv_iload_n hx hb dX10_pairsTurned_15 rfl (lv_at hl 2 rfl) ?_
      refine lv_iconst (v := 1) hx hb dX10_pairsTurned_16 (by decide) ?_
      refine lv_iadd hx hb dX10_pairsTurned_17 ?_
      refine lv_topi (fun x3_3 ex3_3 => ?_)
      replace h := pl_v h ex3_3
      refine lv_istore_n (lv' := [(3, .int x3_3), (0, .ref q_t), (1, .int x1), (2, .int x2)]) hx hb dX10_pairsTurned_18 rfl hl (by decide) rfl (fun ls hl => ?_)
      obtain ⟨x1_13, hz_15, h⟩ := bd_ok h
      refine l_X10_pairsTurned_2 ⟨hx, hb, hml, hown, hts⟩ G hK hA q_t q_t_z q_t_old q_t_past q_t_kept q_t_text q_t_order q_t_told q_t_rowsTaken q_t_columnsTaken q_t_ways q_t_scaled q_t_rowFactors q_t_columnFactors q_t_rest q_t_diagonals q_t_weights x2 t_states t_isKept t_length t_spot t_toldRows t_z t_order x1_13 ?_ FU x1 x3_3 hz_15 H locs ls hP hD hS (lv_sub hl [1, 2, 3, 0] rfl)
      intro H locs ls hP hD hS hl
      obtain ⟨x2_16, ex2_16, h⟩ := pl_ok h
      refine lv_iinc (v := x2_16) (lv' := [(2, .int x2_16), (0, .ref q_t), (1, .int x1_13)]) hx hb dX10_pairsTurned_59 hl (k := 2) rfl (by rw [ex2_16]; rfl) (by decide) rfl (fun ls hl => ?_)
      refine lv_goto (tgt := 4) hx hb dX10_pairsTurned_62 (by decide) ?_
      obtain rfl := sm1 h
      exact ih x1_13 x2_16 hk H locs ls hP hD hS (lv_sub hl [1, 2, 0] rfl)
set_option maxHeartbeats 4000000 in
set_option maxRecDepth 100000 in
theorem k_X10_pairsTurned {p : Program} {l : Launch} {e : Env} {s : State} {m : MethodId} {args : Array Value} {below : List Frame} {meth : Method} {c : Code} {Q : State → Prop} {A0 : Nat → Prop} {H0 : Heap} (C : CallFix p m c cX10_pairsTurned 4 s args wsX10_pairsTurned RX10) (G : GT) (hK : gK G s) (hA : ∀ q : Nat, H0.size ≤ q → A0 q) (q_t q_t_z q_t_old q_t_past q_t_kept q_t_text q_t_order q_t_told q_t_rowsTaken q_t_columnsTaken q_t_ways q_t_scaled q_t_rowFactors q_t_columnFactors q_t_rest q_t_diagonals q_t_weights : Nat) (t_states : Int32) (t_isKept : Int32) (t_length : Int32) (t_spot : Int32) (t_toldRows : Int32) (t_z : Nat → Int32) (t_order : Nat → Int32) (r : Int32) (h : f_X10_pairsTurned t_z t_order = some r) (KR : ∀ (H : Heap) (locs : List Loc) (ls : Array Slot) (pc : Nat), decode cX10_pairsTurned pc = .ok (.ireturn, 1) → va_P G.1 vwCl [(q_t, .inr (9, [.ref q_t_z, .ref q_t_old, .ref q_t_past, .int t_states, .ref q_t_kept, .int t_isKept, .ref q_t_text, .int t_length, .ref q_t_order, .ref q_t_told, .int t_spot, .int t_toldRows, .ref q_t_rowsTaken, .ref q_t_columnsTaken, .ref q_t_ways, .ref q_t_scaled, .ref q_t_rowFactors, .ref q_t_columnFactors, .ref q_t_rest, .ref q_t_diagonals, .ref q_t_weights])), (q_t_z, .inl (G.2 0, 50, .inl t_z)), (q_t_order, .inl (G.2 0, 7, .inl t_order))] H → va_D A0 [(q_t, .inr (9, [.ref q_t_z, .ref q_t_old, .ref q_t_past, .int t_states, .ref q_t_kept, .int t_isKept, .ref q_t_text, .int t_length, .ref q_t_order, .ref q_t_told, .int t_spot, .int t_toldRows, .ref q_t_rowsTaken, .ref q_t_columnsTaken, .ref q_t_ways, .ref q_t_scaled, .ref q_t_rowFactors, .ref q_t_columnFactors, .ref q_t_rest, .ref q_t_diagonals, .ref q_t_weights])), (q_t_z, .inl (G.2 0, 50, .inl t_z)), (q_t_order, .inl (G.2 0, 7, .inl t_order))] → va_S A0 H0 H locs → W p l e ({ frames := 0, cells := 0, slots := 0, locals := 0 } : Room) s m args below meth c H locs 0 0 Q (F0 m pc ls [.int r])) : ∀ (H : Heap) (locs : List Loc) (ls : Array Slot), va_P G.1 vwCl [(q_t, .inr (9, [.ref q_t_z, .ref q_t_old, .ref q_t_past, .int t_states, .ref q_t_kept, .int t_isKept, .ref q_t_text, .int t_length, .ref q_t_order, .ref q_t_told, .int t_spot, .int t_toldRows, .ref q_t_rowsTaken, .ref q_t_columnsTaken, .ref q_t_ways, .ref q_t_scaled, .ref q_t_rowFactors, .ref q_t_columnFactors, .ref q_t_rest, .ref q_t_diagonals, .ref q_t_weights])), (q_t_z, .inl (G.2 0, 50, .inl t_z)), (q_t_order, .inl (G.2 0, 7, .inl t_order))] H → va_D A0 [(q_t, .inr (9, [.ref q_t_z, .ref q_t_old, .ref q_t_past, .int t_states, .ref q_t_kept, .int t_isKept, .ref q_t_text, .int t_length, .ref q_t_order, .ref q_t_told, .int t_spot, .int t_toldRows, .ref q_t_rowsTaken, .ref q_t_columnsTaken, .ref q_t_ways, .ref q_t_scaled, .ref q_t_rowFactors, .ref q_t_columnFactors, .ref q_t_rest, .ref q_t_diagonals, .ref q_t_weights])), (q_t_z, .inl (G.2 0, 50, .inl t_z)), (q_t_order, .inl (G.2 0, 7, .inl t_order))] → va_S A0 H0 H locs → lv_has ls 4 [(0, .ref q_t)] → W p l e ({ frames := 0, cells := 0, slots := 0, locals := 0 } : Room) s m args below meth c H locs 0 0 Q (F0 m 0 ls []) := by
  obtain ⟨hx, hb, hml, hown, hts⟩ := C
  intro H locs ls hP hD hS hl
  rw [f_X10_pairsTurned] at h
  refine lv_iconst (v := 0) hx hb dX10_pairsTurned_0 (by decide) ?_
  refine lv_istore_n (lv' := [(1, .int (0 : Int32)), (0, .ref q_t)]) hx hb dX10_pairsTurned_1 rfl hl (by decide) rfl (fun ls hl => ?_)
  refine lv_iconst (v := 0) hx hb dX10_pairsTurned_2 (by decide) ?_
  refine lv_istore_n (lv' := [(2, .int (0 : Int32)), (1, .int (0 : Int32)), (0, .ref q_t)]) hx hb dX10_pairsTurned_3 rfl hl (by decide) rfl (fun ls hl => ?_)
  obtain ⟨x1_17, hz_19, h⟩ := bd_ok h
  refine l_X10_pairsTurned_1 ⟨hx, hb, hml, hown, hts⟩ G hK hA q_t q_t_z q_t_old q_t_past q_t_kept q_t_text q_t_order q_t_told q_t_rowsTaken q_t_columnsTaken q_t_ways q_t_scaled q_t_rowFactors q_t_columnFactors q_t_rest q_t_diagonals q_t_weights t_states t_isKept t_length t_spot t_toldRows t_z t_order x1_17 ?_ FU (0 : Int32) (0 : Int32) hz_19 H locs ls hP hD hS (lv_sub hl [2, 1, 0] rfl)
  intro H locs ls hP hD hS hl
  refine lv_iload_n hx hb dX10_pairsTurned_65 rfl (lv_at hl 0 rfl) ?_
  obtain rfl := sm1 h
  exact KR H locs ls 66 dX10_pairsTurned_66 hP hD hS
set_option maxHeartbeats 4000000 in
set_option maxRecDepth 100000 in
theorem c_X10_pairsTurned (l : Launch) (G : GT) (q_t q_t_z q_t_old q_t_past q_t_kept q_t_text q_t_order q_t_told q_t_rowsTaken q_t_columnsTaken q_t_ways q_t_scaled q_t_rowFactors q_t_columnFactors q_t_rest q_t_diagonals q_t_weights : Nat) (sz : Nat) (t_states : Int32) (t_isKept : Int32) (t_length : Int32) (t_spot : Int32) (t_toldRows : Int32) (t_z : Nat → Int32) (t_order : Nat → Int32) (r : Int32) (h : f_X10_pairsTurned t_z t_order = some r) : Met l yX10_pairsTurned wsX10_pairsTurned ({ frames := 0, cells := 0, slots := 0, locals := 0 } : Room) (va_Pc [.ref q_t] (pcW G [(q_t, .inr (9, [.ref q_t_z, .ref q_t_old, .ref q_t_past, .int t_states, .ref q_t_kept, .int t_isKept, .ref q_t_text, .int t_length, .ref q_t_order, .ref q_t_told, .int t_spot, .int t_toldRows, .ref q_t_rowsTaken, .ref q_t_columnsTaken, .ref q_t_ways, .ref q_t_scaled, .ref q_t_rowFactors, .ref q_t_columnFactors, .ref q_t_rest, .ref q_t_diagonals, .ref q_t_weights])), (q_t_z, .inl (G.2 0, 50, .inl t_z)), (q_t_order, .inl (G.2 0, 7, .inl t_order))] sz)) (va_Qi (fun r9 (_ : Unit) => r9 = r) (fun _ t => atW G (va_A [(q_t, .inr (9, [.ref q_t_z, .ref q_t_old, .ref q_t_past, .int t_states, .ref q_t_kept, .int t_isKept, .ref q_t_text, .int t_length, .ref q_t_order, .ref q_t_told, .int t_spot, .int t_toldRows, .ref q_t_rowsTaken, .ref q_t_columnsTaken, .ref q_t_ways, .ref q_t_scaled, .ref q_t_rowFactors, .ref q_t_columnFactors, .ref q_t_rest, .ref q_t_diagonals, .ref q_t_weights])), (q_t_z, .inl (G.2 0, 50, .inl t_z)), (q_t_order, .inl (G.2 0, 7, .inl t_order))] sz) [(q_t, .inr (9, [.ref q_t_z, .ref q_t_old, .ref q_t_past, .int t_states, .ref q_t_kept, .int t_isKept, .ref q_t_text, .int t_length, .ref q_t_order, .ref q_t_told, .int t_spot, .int t_toldRows, .ref q_t_rowsTaken, .ref q_t_columnsTaken, .ref q_t_ways, .ref q_t_scaled, .ref q_t_rowFactors, .ref q_t_columnFactors, .ref q_t_rest, .ref q_t_diagonals, .ref q_t_weights])), (q_t_z, .inl (G.2 0, 50, .inl t_z)), (q_t_order, .inl (G.2 0, 7, .inl t_order))] t) (va_A [(q_t, .inr (9, [.ref q_t_z, .ref q_t_old, .ref q_t_past, .int t_states, .ref q_t_kept, .int t_isKept, .ref q_t_text, .int t_length, .ref q_t_order, .ref q_t_told, .int t_spot, .int t_toldRows, .ref q_t_rowsTaken, .ref q_t_columnsTaken, .ref q_t_ways, .ref q_t_scaled, .ref q_t_rowFactors, .ref q_t_columnFactors, .ref q_t_rest, .ref q_t_diagonals, .ref q_t_weights])), (q_t_z, .inl (G.2 0, 50, .inl t_z)), (q_t_order, .inl (G.2 0, 7, .inl t_order))] sz)) 0 0 (va_A [(q_t, .inr (9, [.ref q_t_z, .ref q_t_old, .ref q_t_past, .int t_states, .ref q_t_kept, .int t_isKept, .ref q_t_text, .int t_length, .ref q_t_order, .ref q_t_told, .int t_spot, .int t_toldRows, .ref q_t_rowsTaken, .ref q_t_columnsTaken, .ref q_t_ways, .ref q_t_scaled, .ref q_t_rowFactors, .ref q_t_columnFactors, .ref q_t_rest, .ref q_t_diagonals, .ref q_t_weights])), (q_t_z, .inl (G.2 0, 50, .inl t_z)), (q_t_order, .inl (G.2 0, 7, .inl t_order))] sz) := by
  refine Met.ofW (cc := cX10_pairsTurned) (maxL := 4) (ret := (some .int)) (by decide) rfl ?_
  intro p e s m args below meth c s₁ B hml hv
  obtain ⟨rfl, hsz, hP, hK, hD0⟩ := hv
  subst hsz
  have hD := hD0.self (sz := s.heap.size)
  generalize hAe : va_A [(q_t, .inr (9, [.ref q_t_z, .ref q_t_old, .ref q_t_past, .int t_states, .ref q_t_kept, .int t_isKept, .ref q_t_text, .int t_length, .ref q_t_order, .ref q_t_told, .int t_spot, .int t_toldRows, .ref q_t_rowsTaken, .ref q_t_columnsTaken, .ref q_t_ways, .ref q_t_scaled, .ref q_t_rowFactors, .ref q_t_columnFactors, .ref q_t_rest, .ref q_t_diagonals, .ref q_t_weights])), (q_t_z, .inl (G.2 0, 50, .inl t_z)), (q_t_order, .inl (G.2 0, 7, .inl t_order))] s.heap.size = A at hD ⊢
  have hA : ∀ q : Nat, s.heap.size ≤ q → A q := fun q h => by rw [← hAe]; exact Or.inr h
  have hl := lv_entry ([.ref q_t]) (n := 4) (Nat.le_of_ble_eq_true rfl)
  rw [lg_entry_eq]
  refine k_X10_pairsTurned ⟨B.exec, B.bytes, hml, findClass_of_methodNamed B.named, atoms_spec (ws := wsX10_pairsTurned) B.pre⟩ G hK hA q_t q_t_z q_t_old q_t_past q_t_kept q_t_text q_t_order q_t_told q_t_rowsTaken q_t_columnsTaken q_t_ways q_t_scaled q_t_rowFactors q_t_columnFactors q_t_rest q_t_diagonals q_t_weights _ _ _ _ _ _ _ _ h ?_ _ _ _ hP hD va_S.rf hl
  intro H locs ls pc hd hP hD hS
  exact W.iret B.exec B.bytes B.returns (fun t ht hW => ⟨⟨r, (), rfl, rfl, by rw [ht]; exact hP, hD⟩, hS.F ht⟩) hS.2.2 hd B.notSynchronized
set_option maxRecDepth 20000 in
theorem wd_X10_determinant_1 : Cond.fieldLink RX10 31 "PermanentDeskModel" "rowsTaken" "[I" ∈ wsX10_determinant := List.mem_of_getElem? (i := 1) (by decide +kernel)
set_option maxRecDepth 20000 in
theorem wi_X10_determinant_X10 : ∀ w ∈ u_ws RX10 TX10 21, w ∈ wsX10_determinant := by decide +kernel
set_option maxRecDepth 20000 in
theorem wd_X10_determinant_2 : Cond.fieldLink RX10 34 "PermanentDeskModel" "columnsTaken" "[I" ∈ wsX10_determinant := List.mem_of_getElem? (i := 2) (by decide +kernel)
set_option maxRecDepth 20000 in
theorem wd_X10_determinant_3 : Cond.fieldLink RX10 7 "PermanentDeskModel" "z" "[I" ∈ wsX10_determinant := List.mem_of_getElem? (i := 3) (by decide +kernel)
def f_X10_determinant_L1 (t_z : Nat → Int32) (t_rowsTaken : Nat → Int32) (t_columnsTaken : Nat → Int32) : (Int64 × Int32 × (Nat → Int32)) → Option ((Int64 × Int32 × (Nat → Int32)) ⊕ (Int64 × (Nat → Int32)))
  | (x1, x3, t_order) =>
    if x3 = 0 then
      some (.inr (x1, t_order))
    else
      gd (okI (49 : Int32) 50) (
      (f_X10_product t_z t_order t_rowsTaken t_columnsTaken (t_z (49 : Int32).toNatClampNeg)).bind (fun r_16 =>
      (f_X10_pairsTurned t_z t_order).bind (fun r_18 =>
      Option.bind (
        if (r_18 - r_18 / (2 : Int32) * (2 : Int32)) = 0 then
          some r_16
        else
          some (-r_16)) (fun y_21 =>
      pl ((x1 + y_21) : Int64) (fun x1_22 =>
      gd (okI (49 : Int32) 50) (
      (f_X10_nextOrder t_order (t_z (49 : Int32).toNatClampNeg)).bind (fun (r_25, t_order_24) =>
      some (.inl (x1_22, r_25, t_order_24)))))))))
def f_X10_determinant (t_z : Nat → Int32) (t_order : Nat → Int32) (t_rowsTaken : Nat → Int32) (t_columnsTaken : Nat → Int32) : Option (Int64 × (Nat → Int32) × (Nat → Int32) × (Nat → Int32)) :=
  (f_X10_all t_z).bind (fun r_1 =>
  (f_X10_take 7 t_rowsTaken r_1).bind (fun (r_4, t_rowsTaken_3) =>
  (f_X10_all t_z).bind (fun r_6 =>
  (f_X10_take 7 t_columnsTaken r_6).bind (fun (r_9, t_columnsTaken_8) =>
  gd (okI (49 : Int32) 50) (
  (f_X10_firstOrder t_order (t_z (49 : Int32).toNatClampNeg)).bind (fun t_order_12 =>
  (lpN (f_X10_determinant_L1 t_z t_rowsTaken_3 t_columnsTaken_8) FU ((0 : Int64), (1 : Int32), t_order_12)).bind (fun (x1_27, t_order_28) =>
  some (x1_27, t_order_28, t_rowsTaken_3, t_columnsTaken_8))))))))
set_option maxHeartbeats 4000000 in
set_option maxRecDepth 100000 in
theorem l_X10_determinant_1 {p : Program} {l : Launch} {e : Env} {s : State} {m : MethodId} {args : Array Value} {below : List Frame} {meth : Method} {c : Code} {Q : State → Prop} {A0 : Nat → Prop} {H0 : Heap} (C : CallFix p m c cX10_determinant 6 s args wsX10_determinant RX10) (G : GT) (hK : gK G s) (hA : ∀ q : Nat, H0.size ≤ q → A0 q) (q_t q_t_z q_t_old q_t_past q_t_kept q_t_text q_t_order q_t_told q_t_rowsTaken q_t_columnsTaken q_t_ways q_t_scaled q_t_rowFactors q_t_columnFactors q_t_rest q_t_diagonals q_t_weights : Nat) (t_states : Int32) (t_isKept : Int32) (t_length : Int32) (t_spot : Int32) (t_toldRows : Int32) (t_z : Nat → Int32) (t_rowsTaken : Nat → Int32) (t_columnsTaken : Nat → Int32) (E_x1 : Int64) (E_t_order : Nat → Int32) (K : ∀ (H : Heap) (locs : List Loc) (ls : Array Slot), va_P G.1 vwCl [(q_t, .inr (9, [.ref q_t_z, .ref q_t_old, .ref q_t_past, .int t_states, .ref q_t_kept, .int t_isKept, .ref q_t_text, .int t_length, .ref q_t_order, .ref q_t_told, .int t_spot, .int t_toldRows, .ref q_t_rowsTaken, .ref q_t_columnsTaken, .ref q_t_ways, .ref q_t_scaled, .ref q_t_rowFactors, .ref q_t_columnFactors, .ref q_t_rest, .ref q_t_diagonals, .ref q_t_weights])), (q_t_z, .inl (G.2 0, 50, .inl t_z)), (q_t_order, .inl (G.2 0, 7, .inl E_t_order)), (q_t_rowsTaken, .inl (G.2 0, 7, .inl t_rowsTaken)), (q_t_columnsTaken, .inl (G.2 0, 7, .inl t_columnsTaken))] H → va_D A0 [(q_t, .inr (9, [.ref q_t_z, .ref q_t_old, .ref q_t_past, .int t_states, .ref q_t_kept, .int t_isKept, .ref q_t_text, .int t_length, .ref q_t_order, .ref q_t_told, .int t_spot, .int t_toldRows, .ref q_t_rowsTaken, .ref q_t_columnsTaken, .ref q_t_ways, .ref q_t_scaled, .ref q_t_rowFactors, .ref q_t_columnFactors, .ref q_t_rest, .ref q_t_diagonals, .ref q_t_weights])), (q_t_z, .inl (G.2 0, 50, .inl t_z)), (q_t_order, .inl (G.2 0, 7, .inl E_t_order)), (q_t_rowsTaken, .inl (G.2 0, 7, .inl t_rowsTaken)), (q_t_columnsTaken, .inl (G.2 0, 7, .inl t_columnsTaken))] → va_S A0 H0 H locs → lv_has ls 6 [(1, .long E_x1)] → W p l e ({ frames := 2, cells := 0, slots := 0, locals := 48 } : Room) s m args below meth c H locs 0 0 Q (F0 m 91 ls [])) : ∀ (n : Nat) (x1 : Int64) (x3 : Int32) (t_order : Nat → Int32), lpN (f_X10_determinant_L1 t_z t_rowsTaken t_columnsTaken) n (x1, x3, t_order) = some (E_x1, E_t_order) → ∀ (H : Heap) (locs : List Loc) (ls : Array Slot), va_P G.1 vwCl [(q_t, .inr (9, [.ref q_t_z, .ref q_t_old, .ref q_t_past, .int t_states, .ref q_t_kept, .int t_isKept, .ref q_t_text, .int t_length, .ref q_t_order, .ref q_t_told, .int t_spot, .int t_toldRows, .ref q_t_rowsTaken, .ref q_t_columnsTaken, .ref q_t_ways, .ref q_t_scaled, .ref q_t_rowFactors, .ref q_t_columnFactors, .ref q_t_rest, .ref q_t_diagonals, .ref q_t_weights])), (q_t_z, .inl (G.2 0, 50, .inl t_z)), (q_t_order, .inl (G.2 0, 7, .inl t_order)), (q_t_rowsTaken, .inl (G.2 0, 7, .inl t_rowsTaken)), (q_t_columnsTaken, .inl (G.2 0, 7, .inl t_columnsTaken))] H → va_D A0 [(q_t, .inr (9, [.ref q_t_z, .ref q_t_old, .ref q_t_past, .int t_states, .ref q_t_kept, .int t_isKept, .ref q_t_text, .int t_length, .ref q_t_order, .ref q_t_told, .int t_spot, .int t_toldRows, .ref q_t_rowsTaken, .ref q_t_columnsTaken, .ref q_t_ways, .ref q_t_scaled, .ref q_t_rowFactors, .ref q_t_columnFactors, .ref q_t_rest, .ref q_t_diagonals, .ref q_t_weights])), (q_t_z, .inl (G.2 0, 50, .inl t_z)), (q_t_order, .inl (G.2 0, 7, .inl t_order)), (q_t_rowsTaken, .inl (G.2 0, 7, .inl t_rowsTaken)), (q_t_columnsTaken, .inl (G.2 0, 7, .inl t_columnsTaken))] → va_S A0 H0 H locs → lv_has ls 6 [(0, .ref q_t), (1, .long x1), (3, .int x3)] → W p l e ({ frames := 2, cells := 0, slots := 0, locals := 48 } : Room) s m args below meth c H locs 0 0 Q (F0 m 39 ls []) := by
  obtain ⟨hx, hb, hml, hown, hts⟩ := C
  intro n
  induction n with
  | zero => intro x1 x3 t_order h; exact absurd h (fun h => lp_0 h)
  | succ n ih =>
    intro x1 x3 t_order h H locs ls hP hD hS hl
    obtain ⟨y, h, hk⟩ := lp_s h
    rw [f_X10_determinant_L1] at h
    refine lv_iload_n hx hb dX10_determinant_39 rfl (lv_at hl 2 rfl) ?_
    refine lv_if_eq (tgt := 91) hx hb dX10_determinant_40 (by decide) (fun c_14 => ?_) (fun c_14 => ?_)
    · replace h := it_t h c_14
      obtain rfl := sm1 h
      obtain ⟨rfl, rfl⟩ := sm2 hk
      exact K H locs ls hP hD hS (lv_sub hl [1] rfl)
    · replace h := it_f h c_14
      refine lv_aload_n hx hb dX10_determinant_43 rfl (lv_at hl 0 rfl) ?_
      refine lv_aload_n hx hb dX10_determinant_44 rfl (lv_at hl 0 rfl) ?_
      refine va_get (D := G.1) (ci := 9) (v := .ref q_t_z) (C := RX10) (T := TX10) (N := 21) hx hb hts wi_X10_determinant_X10 hown hK hP 0 rfl rfl 0 (by decide) (hts _ wd_X10_determinant_3) (fun _ h9 => h9) rfl dX10_determinant_45 ?_
      refine lv_bipush (v := 49) hx hb dX10_determinant_48 (by decide) ?_
      obtain ⟨g_15, h⟩ := gd_ok h
      refine va_iald (D := G.1) hx hb hK hP 1 0 rfl rfl g_15 dX10_determinant_50 ?_
      obtain ⟨r_16, hf_17, h⟩ := bd_ok h
      refine ck_Vl (rest := []) (wn := [(q_t, .inr (9, [.ref q_t_z, .ref q_t_old, .ref q_t_past, .int t_states, .ref q_t_kept, .int t_isKept, .ref q_t_text, .int t_length, .ref q_t_order, .ref q_t_told, .int t_spot, .int t_toldRows, .ref q_t_rowsTaken, .ref q_t_columnsTaken, .ref q_t_ways, .ref q_t_scaled, .ref q_t_rowFactors, .ref q_t_columnFactors, .ref q_t_rest, .ref q_t_diagonals, .ref q_t_weights])), (q_t_z, .inl (G.2 0, 50, .inl t_z)), (q_t_order, .inl (G.2 0, 7, .inl t_order)), (q_t_rowsTaken, .inl (G.2 0, 7, .inl t_rowsTaken)), (q_t_columnsTaken, .inl (G.2 0, 7, .inl t_columnsTaken))]) ⟨hx, hb, hml, hown, hts⟩ hK hP hD hS hA [0, 1, 2, 3, 4] [] [0, 1, 2, 3, 4] (c_X10_product l G q_t q_t_z q_t_old q_t_past q_t_kept q_t_text q_t_order q_t_told q_t_rowsTaken q_t_columnsTaken q_t_ways q_t_scaled q_t_rowFactors q_t_columnFactors q_t_rest q_t_diagonals q_t_weights _ t_states t_isKept t_length t_spot t_toldRows t_z t_order t_rowsTaken t_columnsTaken (t_z (49 : Int32).toNatClampNeg) _ hf_17) (cwV 1 hts gX10_determinant_X10_product rfl rfl rfl (by decide +kernel) ⟨Nat.le_of_ble_eq_true rfl, Nat.le_of_ble_eq_true rfl⟩) rfl rfl rfl rfl rfl rfl (by decide) rfl rfl rfl hl.1 rfl (Nat.le_of_ble_eq_true rfl) dX10_determinant_51 ⟨Nat.zero_le _, Nat.zero_le _⟩ (fun H locs hP hD hS => ?_)
      refine lv_lstore (lv' := [(4, .long r_16), (0, .ref q_t), (1, .long x1), (3, .int x3)]) hx hb dX10_determinant_54 hl (by decide) rfl (fun ls hl => ?_)
      refine lv_lload_n hx hb dX10_determinant_56 rfl (lv_at hl 2 rfl) ?_
      refine lv_aload_n hx hb dX10_determinant_57 rfl (lv_at hl 1 rfl) ?_
      obtain ⟨r_18, hf_19, h⟩ := bd_ok h
      refine ck_Vi (rest := [.long x1]) (wn := [(q_t, .inr (9, [.ref q_t_z, .ref q_t_old, .ref q_t_past, .int t_states, .ref q_t_kept, .int t_isKept, .ref q_t_text, .int t_length, .ref q_t_order, .ref q_t_told, .int t_spot, .int t_toldRows, .ref q_t_rowsTaken, .ref q_t_columnsTaken, .ref q_t_ways, .ref q_t_scaled, .ref q_t_rowFactors, .ref q_t_columnFactors, .ref q_t_rest, .ref q_t_diagonals, .ref q_t_weights])), (q_t_z, .inl (G.2 0, 50, .inl t_z)), (q_t_order, .inl (G.2 0, 7, .inl t_order)), (q_t_rowsTaken, .inl (G.2 0, 7, .inl t_rowsTaken)), (q_t_columnsTaken, .inl (G.2 0, 7, .inl t_columnsTaken))]) ⟨hx, hb, hml, hown, hts⟩ hK hP hD hS hA [0, 1, 2] [3, 4] [2, 3, 4, 0, 1] (c_X10_pairsTurned l G q_t q_t_z q_t_old q_t_past q_t_kept q_t_text q_t_order q_t_told q_t_rowsTaken q_t_columnsTaken q_t_ways q_t_scaled q_t_rowFactors q_t_columnFactors q_t_rest q_t_diagonals q_t_weights _ t_states t_isKept t_length t_spot t_toldRows t_z t_order _ hf_19) (cwV 0 hts gX10_determinant_X10_pairsTurned rfl rfl rfl (by decide +kernel) ⟨Nat.le_of_ble_eq_true rfl, Nat.le_of_ble_eq_true rfl⟩) rfl rfl rfl rfl rfl rfl (by decide) rfl rfl rfl hl.1 rfl (Nat.le_of_ble_eq_true rfl) dX10_determinant_58 ⟨Nat.zero_le _, Nat.zero_le _⟩ (fun H locs hP hD hS => ?_)
      refine lv_iconst (v := 2) hx hb dX10_determinant_61 (by decide) ?_
      refine lv_irem hx hb dX10_determinant_62 (by decide) ?_
      obtain ⟨y_21, hr, h⟩ := bd_ok h
      have J : ∀ (H : Heap) (locs : List Loc) (ls : Array Slot), va_P G.1 vwCl [(q_t, .inr (9, [.ref q_t_z, .ref q_t_old, .ref q_t_past, .int t_states, .ref q_t_kept, .int t_isKept, .ref q_t_text, .int t_length, .ref q_t_order, .ref q_t_told, .int t_spot, .int t_toldRows, .ref q_t_rowsTaken, .ref q_t_columnsTaken, .ref q_t_ways, .ref q_t_scaled, .ref q_t_rowFactors, .ref q_t_columnFactors, .ref q_t_rest, .ref q_t_diagonals, .ref q_t_weights])), (q_t_z, .inl (G.2 0, 50, .inl t_z)), (q_t_order, .inl (G.2 0, 7, .inl t_order)), (q_t_rowsTaken, .inl (G.2 0, 7, .inl t_rowsTaken)), (q_t_columnsTaken, .inl (G.2 0, 7, .inl t_columnsTaken))] H → va_D A0 [(q_t, .inr (9, [.ref q_t_z, .ref q_t_old, .ref q_t_past, .int t_states, .ref q_t_kept, .int t_isKept, .ref q_t_text, .int t_length, .ref q_t_order, .ref q_t_told, .int t_spot, .int t_toldRows, .ref q_t_rowsTaken, .ref q_t_columnsTaken, .ref q_t_ways, .ref q_t_scaled, .ref q_t_rowFactors, .ref q_t_columnFactors, .ref q_t_rest, .ref q_t_diagonals, .ref q_t_weights])), (q_t_z, .inl (G.2 0, 50, .inl t_z)), (q_t_order, .inl (G.2 0, 7, .inl t_order)), (q_t_rowsTaken, .inl (G.2 0, 7, .inl t_rowsTaken)), (q_t_columnsTaken, .inl (G.2 0, 7, .inl t_columnsTaken))] → va_S A0 H0 H locs → lv_has ls 6 [(0, .ref q_t)] → W p l e ({ frames := 2, cells := 0, slots := 0, locals := 48 } : Room) s m args below meth c H locs 0 0 Q (F0 m 74 ls [.long y_21, .long x1]) := by
        intro H locs ls hP hD hS hl
        refine lv_ladd hx hb dX10_determinant_74 ?_
        refine lv_topl (fun x1_22 ex1_22 => ?_)
        replace h := pl_v h ex1_22
        refine lv_lstore_n (lv' := [(1, .long x1_22), (0, .ref q_t)]) hx hb dX10_determinant_75 rfl hl (by decide) rfl (fun ls hl => ?_)
        refine lv_aload_n hx hb dX10_determinant_76 rfl (lv_at hl 1 rfl) ?_
        refine lv_aload_n hx hb dX10_determinant_77 rfl (lv_at hl 1 rfl) ?_
        refine va_get (D := G.1) (ci := 9) (v := .ref q_t_z) (C := RX10) (T := TX10) (N := 21) hx hb hts wi_X10_determinant_X10 hown hK hP 0 rfl rfl 0 (by decide) (hts _ wd_X10_determinant_3) (fun _ h9 => h9) rfl dX10_determinant_78 ?_
        refine lv_bipush (v := 49) hx hb dX10_determinant_81 (by decide) ?_
        obtain ⟨g_23, h⟩ := gd_ok h
        refine va_iald (D := G.1) hx hb hK hP 1 0 rfl rfl g_23 dX10_determinant_83 ?_
        obtain ⟨⟨r_25, t_order_24⟩, hf_26, h⟩ := bd_ok h
        refine ck_Vi (rest := []) (wn := [(q_t, .inr (9, [.ref q_t_z, .ref q_t_old, .ref q_t_past, .int t_states, .ref q_t_kept, .int t_isKept, .ref q_t_text, .int t_length, .ref q_t_order, .ref q_t_told, .int t_spot, .int t_toldRows, .ref q_t_rowsTaken, .ref q_t_columnsTaken, .ref q_t_ways, .ref q_t_scaled, .ref q_t_rowFactors, .ref q_t_columnFactors, .ref q_t_rest, .ref q_t_diagonals, .ref q_t_weights])), (q_t_z, .inl (G.2 0, 50, .inl t_z)), (q_t_order, .inl (G.2 0, 7, .inl t_order_24)), (q_t_rowsTaken, .inl (G.2 0, 7, .inl t_rowsTaken)), (q_t_columnsTaken, .inl (G.2 0, 7, .inl t_columnsTaken))]) ⟨hx, hb, hml, hown, hts⟩ hK hP hD hS hA [0, 2] [1, 3, 4] [3, 0, 4, 1, 2] (c_X10_nextOrder l G q_t q_t_z q_t_old q_t_past q_t_kept q_t_text q_t_order q_t_told q_t_rowsTaken q_t_columnsTaken q_t_ways q_t_scaled q_t_rowFactors q_t_columnFactors q_t_rest q_t_diagonals q_t_weights _ t_states t_isKept t_length t_spot t_toldRows t_order (t_z (49 : Int32).toNatClampNeg) _ _ hf_26) (cwV 1 hts gX10_determinant_X10_nextOrder rfl rfl rfl (by decide +kernel) ⟨Nat.le_of_ble_eq_true rfl, Nat.le_of_ble_eq_true rfl⟩) rfl rfl rfl rfl rfl rfl (by decide) rfl rfl rfl hl.1 rfl (Nat.le_of_ble_eq_true rfl) dX10_determinant_84 ⟨Nat.zero_le _, Nat.zero_le _⟩ (fun H locs hP hD hS => ?_)
        refine lv_istore_n (lv' := [(3, .int r_25), (1, .long x1_22), (0, .ref q_t)]) hx hb dX10_determinant_87 rfl hl (by decide) rfl (fun ls hl => ?_)
        refine lv_goto (tgt := 39) hx hb dX10_determinant_88 (by decide) ?_
        obtain rfl := sm1 h
        exact ih x1_22 r_25 t_order_24 hk H locs ls hP hD hS (lv_sub hl [2, 1, 0] rfl)
      replace h := hr
      clear hr
      refine lv_if_ne (tgt := 71) hx hb dX10_determinant_63 (by decide) (fun c_20 => ?_) (fun c_20 => ?_)
      · replace h := it_f h c_20
        refine lv_lload hx hb dX10_determinant_71 (lv_at hl 0 rfl) ?_
        refine lv_lneg hx hb dX10_determinant_73 ?_
        obtain rfl := sm1 h
        exact J H locs ls hP hD hS (lv_sub hl [1] rfl)
      · replace h := it_t h c_20
        refine lv_lload hx hb dX10_determinant_66 (lv_at hl 0 rfl) ?_
        refine lv_goto (tgt := 74) hx hb dX10_determinant_68 (by decide) ?_
        obtain rfl := sm1 h
        exact J H locs ls hP hD hS (lv_sub hl [1] rfl)
set_option maxHeartbeats 4000000 in
set_option maxRecDepth 100000 in
theorem k_X10_determinant {p : Program} {l : Launch} {e : Env} {s : State} {m : MethodId} {args : Array Value} {below : List Frame} {meth : Method} {c : Code} {Q : State → Prop} {A0 : Nat → Prop} {H0 : Heap} (C : CallFix p m c cX10_determinant 6 s args wsX10_determinant RX10) (G : GT) (hK : gK G s) (hA : ∀ q : Nat, H0.size ≤ q → A0 q) (q_t q_t_z q_t_old q_t_past q_t_kept q_t_text q_t_order q_t_told q_t_rowsTaken q_t_columnsTaken q_t_ways q_t_scaled q_t_rowFactors q_t_columnFactors q_t_rest q_t_diagonals q_t_weights : Nat) (t_states : Int32) (t_isKept : Int32) (t_length : Int32) (t_spot : Int32) (t_toldRows : Int32) (t_z : Nat → Int32) (t_order : Nat → Int32) (t_rowsTaken : Nat → Int32) (t_columnsTaken : Nat → Int32) (r : Int64) (o_t_order : Nat → Int32) (o_t_rowsTaken : Nat → Int32) (o_t_columnsTaken : Nat → Int32) (h : f_X10_determinant t_z t_order t_rowsTaken t_columnsTaken = some (r, o_t_order, o_t_rowsTaken, o_t_columnsTaken)) (KR : ∀ (H : Heap) (locs : List Loc) (ls : Array Slot) (pc : Nat), decode cX10_determinant pc = .ok (.lreturn, 1) → va_P G.1 vwCl [(q_t, .inr (9, [.ref q_t_z, .ref q_t_old, .ref q_t_past, .int t_states, .ref q_t_kept, .int t_isKept, .ref q_t_text, .int t_length, .ref q_t_order, .ref q_t_told, .int t_spot, .int t_toldRows, .ref q_t_rowsTaken, .ref q_t_columnsTaken, .ref q_t_ways, .ref q_t_scaled, .ref q_t_rowFactors, .ref q_t_columnFactors, .ref q_t_rest, .ref q_t_diagonals, .ref q_t_weights])), (q_t_z, .inl (G.2 0, 50, .inl t_z)), (q_t_order, .inl (G.2 0, 7, .inl o_t_order)), (q_t_rowsTaken, .inl (G.2 0, 7, .inl o_t_rowsTaken)), (q_t_columnsTaken, .inl (G.2 0, 7, .inl o_t_columnsTaken))] H → va_D A0 [(q_t, .inr (9, [.ref q_t_z, .ref q_t_old, .ref q_t_past, .int t_states, .ref q_t_kept, .int t_isKept, .ref q_t_text, .int t_length, .ref q_t_order, .ref q_t_told, .int t_spot, .int t_toldRows, .ref q_t_rowsTaken, .ref q_t_columnsTaken, .ref q_t_ways, .ref q_t_scaled, .ref q_t_rowFactors, .ref q_t_columnFactors, .ref q_t_rest, .ref q_t_diagonals, .ref q_t_weights])), (q_t_z, .inl (G.2 0, 50, .inl t_z)), (q_t_order, .inl (G.2 0, 7, .inl o_t_order)), (q_t_rowsTaken, .inl (G.2 0, 7, .inl o_t_rowsTaken)), (q_t_columnsTaken, .inl (G.2 0, 7, .inl o_t_columnsTaken))] → va_S A0 H0 H locs → W p l e ({ frames := 2, cells := 0, slots := 0, locals := 48 } : Room) s m args below meth c H locs 0 0 Q (F0 m pc ls [.long r])) : ∀ (H : Heap) (locs : List Loc) (ls : Array Slot), va_P G.1 vwCl [(q_t, .inr (9, [.ref q_t_z, .ref q_t_old, .ref q_t_past, .int t_states, .ref q_t_kept, .int t_isKept, .ref q_t_text, .int t_length, .ref q_t_order, .ref q_t_told, .int t_spot, .int t_toldRows, .ref q_t_rowsTaken, .ref q_t_columnsTaken, .ref q_t_ways, .ref q_t_scaled, .ref q_t_rowFactors, .ref q_t_columnFactors, .ref q_t_rest, .ref q_t_diagonals, .ref q_t_weights])), (q_t_z, .inl (G.2 0, 50, .inl t_z)), (q_t_order, .inl (G.2 0, 7, .inl t_order)), (q_t_rowsTaken, .inl (G.2 0, 7, .inl t_rowsTaken)), (q_t_columnsTaken, .inl (G.2 0, 7, .inl t_columnsTaken))] H → va_D A0 [(q_t, .inr (9, [.ref q_t_z, .ref q_t_old, .ref q_t_past, .int t_states, .ref q_t_kept, .int t_isKept, .ref q_t_text, .int t_length, .ref q_t_order, .ref q_t_told, .int t_spot, .int t_toldRows, .ref q_t_rowsTaken, .ref q_t_columnsTaken, .ref q_t_ways, .ref q_t_scaled, .ref q_t_rowFactors, .ref q_t_columnFactors, .ref q_t_rest, .ref q_t_diagonals, .ref q_t_weights])), (q_t_z, .inl (G.2 0, 50, .inl t_z)), (q_t_order, .inl (G.2 0, 7, .inl t_order)), (q_t_rowsTaken, .inl (G.2 0, 7, .inl t_rowsTaken)), (q_t_columnsTaken, .inl (G.2 0, 7, .inl t_columnsTaken))] → va_S A0 H0 H locs → lv_has ls 6 [(0, .ref q_t)] → W p l e ({ frames := 2, cells := 0, slots := 0, locals := 48 } : Room) s m args below meth c H locs 0 0 Q (F0 m 0 ls []) := by
  obtain ⟨hx, hb, hml, hown, hts⟩ := C
  intro H locs ls hP hD hS hl
  rw [f_X10_determinant] at h
  refine lv_aload_n hx hb dX10_determinant_0 rfl (lv_at hl 0 rfl) ?_
  obtain ⟨r_1, hf_2, h⟩ := bd_ok h
  refine ck_Vi (rest := []) (wn := [(q_t, .inr (9, [.ref q_t_z, .ref q_t_old, .ref q_t_past, .int t_states, .ref q_t_kept, .int t_isKept, .ref q_t_text, .int t_length, .ref q_t_order, .ref q_t_told, .int t_spot, .int t_toldRows, .ref q_t_rowsTaken, .ref q_t_columnsTaken, .ref q_t_ways, .ref q_t_scaled, .ref q_t_rowFactors, .ref q_t_columnFactors, .ref q_t_rest, .ref q_t_diagonals, .ref q_t_weights])), (q_t_z, .inl (G.2 0, 50, .inl t_z)), (q_t_order, .inl (G.2 0, 7, .inl t_order)), (q_t_rowsTaken, .inl (G.2 0, 7, .inl t_rowsTaken)), (q_t_columnsTaken, .inl (G.2 0, 7, .inl t_columnsTaken))]) ⟨hx, hb, hml, hown, hts⟩ hK hP hD hS hA [0, 1] [2, 3, 4] [3, 4, 0, 1, 2] (c_X10_all l G q_t q_t_z q_t_old q_t_past q_t_kept q_t_text q_t_order q_t_told q_t_rowsTaken q_t_columnsTaken q_t_ways q_t_scaled q_t_rowFactors q_t_columnFactors q_t_rest q_t_diagonals q_t_weights _ t_states t_isKept t_length t_spot t_toldRows t_z _ hf_2) (cwV 0 hts gX10_determinant_X10_all rfl rfl rfl (by decide +kernel) ⟨Nat.le_of_ble_eq_true rfl, Nat.le_of_ble_eq_true rfl⟩) rfl rfl rfl rfl rfl rfl (by decide) rfl rfl rfl hl.1 rfl (Nat.le_of_ble_eq_true rfl) dX10_determinant_1 ⟨Nat.zero_le _, Nat.zero_le _⟩ (fun H locs hP hD hS => ?_)
  refine lv_aload_n hx hb dX10_determinant_4 rfl (lv_at hl 0 rfl) ?_
  refine va_get (D := G.1) (ci := 9) (v := .ref q_t_rowsTaken) (C := RX10) (T := TX10) (N := 21) hx hb hts wi_X10_determinant_X10 hown hK hP 0 rfl rfl 12 (by decide) (hts _ wd_X10_determinant_1) (fun _ h9 => h9) rfl dX10_determinant_5 ?_
  obtain ⟨⟨r_4, t_rowsTaken_3⟩, hf_5, h⟩ := bd_ok h
  refine ck_Si (rest := []) (wn := [(q_t, .inr (9, [.ref q_t_z, .ref q_t_old, .ref q_t_past, .int t_states, .ref q_t_kept, .int t_isKept, .ref q_t_text, .int t_length, .ref q_t_order, .ref q_t_told, .int t_spot, .int t_toldRows, .ref q_t_rowsTaken, .ref q_t_columnsTaken, .ref q_t_ways, .ref q_t_scaled, .ref q_t_rowFactors, .ref q_t_columnFactors, .ref q_t_rest, .ref q_t_diagonals, .ref q_t_weights])), (q_t_z, .inl (G.2 0, 50, .inl t_z)), (q_t_order, .inl (G.2 0, 7, .inl t_order)), (q_t_rowsTaken, .inl (G.2 0, 7, .inl t_rowsTaken_3)), (q_t_columnsTaken, .inl (G.2 0, 7, .inl t_columnsTaken))]) ⟨hx, hb, hml, hown, hts⟩ hK hP hD hS hA [3] [0, 1, 2, 4] [0, 1, 2, 4, 3] (c_X10_take l G q_t_rowsTaken _ 7 t_rowsTaken r_1 _ _ hf_5) (cwS 2 hts gX10_determinant_X10_take rfl rfl rfl (by decide +kernel) ⟨Nat.le_of_ble_eq_true rfl, Nat.le_of_ble_eq_true rfl⟩) rfl rfl rfl rfl (by decide) rfl rfl rfl hl.1 rfl (Nat.le_of_ble_eq_true rfl) dX10_determinant_8 ⟨Nat.zero_le _, Nat.zero_le _⟩ (fun H locs hP hD hS => ?_)
  refine lv_pop hx hb dX10_determinant_11 rfl ?_
  refine lv_aload_n hx hb dX10_determinant_12 rfl (lv_at hl 0 rfl) ?_
  obtain ⟨r_6, hf_7, h⟩ := bd_ok h
  refine ck_Vi (rest := []) (wn := [(q_t, .inr (9, [.ref q_t_z, .ref q_t_old, .ref q_t_past, .int t_states, .ref q_t_kept, .int t_isKept, .ref q_t_text, .int t_length, .ref q_t_order, .ref q_t_told, .int t_spot, .int t_toldRows, .ref q_t_rowsTaken, .ref q_t_columnsTaken, .ref q_t_ways, .ref q_t_scaled, .ref q_t_rowFactors, .ref q_t_columnFactors, .ref q_t_rest, .ref q_t_diagonals, .ref q_t_weights])), (q_t_z, .inl (G.2 0, 50, .inl t_z)), (q_t_order, .inl (G.2 0, 7, .inl t_order)), (q_t_rowsTaken, .inl (G.2 0, 7, .inl t_rowsTaken_3)), (q_t_columnsTaken, .inl (G.2 0, 7, .inl t_columnsTaken))]) ⟨hx, hb, hml, hown, hts⟩ hK hP hD hS hA [0, 1] [2, 3, 4] [3, 4, 0, 1, 2] (c_X10_all l G q_t q_t_z q_t_old q_t_past q_t_kept q_t_text q_t_order q_t_told q_t_rowsTaken q_t_columnsTaken q_t_ways q_t_scaled q_t_rowFactors q_t_columnFactors q_t_rest q_t_diagonals q_t_weights _ t_states t_isKept t_length t_spot t_toldRows t_z _ hf_7) (cwV 0 hts gX10_determinant_X10_all rfl rfl rfl (by decide +kernel) ⟨Nat.le_of_ble_eq_true rfl, Nat.le_of_ble_eq_true rfl⟩) rfl rfl rfl rfl rfl rfl (by decide) rfl rfl rfl hl.1 rfl (Nat.le_of_ble_eq_true rfl) dX10_determinant_13 ⟨Nat.zero_le _, Nat.zero_le _⟩ (fun H locs hP hD hS => ?_)
  refine lv_aload_n hx hb dX10_determinant_16 rfl (lv_at hl 0 rfl) ?_
  refine va_get (D := G.1) (ci := 9) (v := .ref q_t_columnsTaken) (C := RX10) (T := TX10) (N := 21) hx hb hts wi_X10_determinant_X10 hown hK hP 0 rfl rfl 13 (by decide) (hts _ wd_X10_determinant_2) (fun _ h9 => h9) rfl dX10_determinant_17 ?_
  obtain ⟨⟨r_9, t_columnsTaken_8⟩, hf_10, h⟩ := bd_ok h
  refine ck_Si (rest := []) (wn := [(q_t, .inr (9, [.ref q_t_z, .ref q_t_old, .ref q_t_past, .int t_states, .ref q_t_kept, .int t_isKept, .ref q_t_text, .int t_length, .ref q_t_order, .ref q_t_told, .int t_spot, .int t_toldRows, .ref q_t_rowsTaken, .ref q_t_columnsTaken, .ref q_t_ways, .ref q_t_scaled, .ref q_t_rowFactors, .ref q_t_columnFactors, .ref q_t_rest, .ref q_t_diagonals, .ref q_t_weights])), (q_t_z, .inl (G.2 0, 50, .inl t_z)), (q_t_order, .inl (G.2 0, 7, .inl t_order)), (q_t_rowsTaken, .inl (G.2 0, 7, .inl t_rowsTaken_3)), (q_t_columnsTaken, .inl (G.2 0, 7, .inl t_columnsTaken_8))]) ⟨hx, hb, hml, hown, hts⟩ hK hP hD hS hA [4] [0, 1, 2, 3] [0, 1, 2, 3, 4] (c_X10_take l G q_t_columnsTaken _ 7 t_columnsTaken r_6 _ _ hf_10) (cwS 2 hts gX10_determinant_X10_take rfl rfl rfl (by decide +kernel) ⟨Nat.le_of_ble_eq_true rfl, Nat.le_of_ble_eq_true rfl⟩) rfl rfl rfl rfl (by decide) rfl rfl rfl hl.1 rfl (Nat.le_of_ble_eq_true rfl) dX10_determinant_20 ⟨Nat.zero_le _, Nat.zero_le _⟩ (fun H locs hP hD hS => ?_)
  refine lv_pop hx hb dX10_determinant_23 rfl ?_
  refine lv_aload_n hx hb dX10_determinant_24 rfl (lv_at hl 0 rfl) ?_
  refine lv_aload_n hx hb dX10_determinant_25 rfl (lv_at hl 0 rfl) ?_
  refine va_get (D := G.1) (ci := 9) (v := .ref q_t_z) (C := RX10) (T := TX10) (N := 21) hx hb hts wi_X10_determinant_X10 hown hK hP 0 rfl rfl 0 (by decide) (hts _ wd_X10_determinant_3) (fun _ h9 => h9) rfl dX10_determinant_26 ?_
  refine lv_bipush (v := 49) hx hb dX10_determinant_29 (by decide) ?_
  obtain ⟨g_11, h⟩ := gd_ok h
  refine va_iald (D := G.1) hx hb hK hP 1 0 rfl rfl g_11 dX10_determinant_31 ?_
  obtain ⟨t_order_12, hf_13, h⟩ := bd_ok h
  refine ck_Vv (rest := []) (wn := [(q_t, .inr (9, [.ref q_t_z, .ref q_t_old, .ref q_t_past, .int t_states, .ref q_t_kept, .int t_isKept, .ref q_t_text, .int t_length, .ref q_t_order, .ref q_t_told, .int t_spot, .int t_toldRows, .ref q_t_rowsTaken, .ref q_t_columnsTaken, .ref q_t_ways, .ref q_t_scaled, .ref q_t_rowFactors, .ref q_t_columnFactors, .ref q_t_rest, .ref q_t_diagonals, .ref q_t_weights])), (q_t_z, .inl (G.2 0, 50, .inl t_z)), (q_t_order, .inl (G.2 0, 7, .inl t_order_12)), (q_t_rowsTaken, .inl (G.2 0, 7, .inl t_rowsTaken_3)), (q_t_columnsTaken, .inl (G.2 0, 7, .inl t_columnsTaken_8))]) ⟨hx, hb, hml, hown, hts⟩ hK hP hD hS hA [0, 2] [1, 3, 4] [3, 0, 4, 1, 2] (c_X10_firstOrder l G q_t q_t_z q_t_old q_t_past q_t_kept q_t_text q_t_order q_t_told q_t_rowsTaken q_t_columnsTaken q_t_ways q_t_scaled q_t_rowFactors q_t_columnFactors q_t_rest q_t_diagonals q_t_weights _ t_states t_isKept t_length t_spot t_toldRows t_order (t_z (49 : Int32).toNatClampNeg) _ hf_13) (cwV 1 hts gX10_determinant_X10_firstOrder rfl rfl rfl (by decide +kernel) ⟨Nat.le_of_ble_eq_true rfl, Nat.le_of_ble_eq_true rfl⟩) rfl rfl rfl rfl rfl rfl (by decide) rfl rfl rfl hl.1 rfl (Nat.le_of_ble_eq_true rfl) dX10_determinant_32 ⟨Nat.zero_le _, Nat.zero_le _⟩ (fun H locs hP hD hS => ?_)
  refine lv_lconst (v := 0) hx hb dX10_determinant_35 (by decide) ?_
  refine lv_lstore_n (lv' := [(1, .long (0 : Int64)), (0, .ref q_t)]) hx hb dX10_determinant_36 rfl hl (by decide) rfl (fun ls hl => ?_)
  refine lv_iconst (v := 1) hx hb dX10_determinant_37 (by decide) ?_
  refine lv_istore_n (lv' := [(3, .int (1 : Int32)), (1, .long (0 : Int64)), (0, .ref q_t)]) hx hb dX10_determinant_38 rfl hl (by decide) rfl (fun ls hl => ?_)
  obtain ⟨⟨x1_27, t_order_28⟩, hz_30, h⟩ := bd_ok h
  refine l_X10_determinant_1 ⟨hx, hb, hml, hown, hts⟩ G hK hA q_t q_t_z q_t_old q_t_past q_t_kept q_t_text q_t_order q_t_told q_t_rowsTaken q_t_columnsTaken q_t_ways q_t_scaled q_t_rowFactors q_t_columnFactors q_t_rest q_t_diagonals q_t_weights t_states t_isKept t_length t_spot t_toldRows t_z t_rowsTaken_3 t_columnsTaken_8 x1_27 t_order_28 ?_ FU (0 : Int64) (1 : Int32) t_order_12 hz_30 H locs ls hP hD hS (lv_sub hl [2, 1, 0] rfl)
  intro H locs ls hP hD hS hl
  refine lv_lload_n hx hb dX10_determinant_91 rfl (lv_at hl 0 rfl) ?_
  obtain ⟨rfl, rfl, rfl, rfl⟩ := sm4 h
  exact KR H locs ls 92 dX10_determinant_92 hP hD hS
set_option maxHeartbeats 4000000 in
set_option maxRecDepth 100000 in
theorem c_X10_determinant (l : Launch) (G : GT) (q_t q_t_z q_t_old q_t_past q_t_kept q_t_text q_t_order q_t_told q_t_rowsTaken q_t_columnsTaken q_t_ways q_t_scaled q_t_rowFactors q_t_columnFactors q_t_rest q_t_diagonals q_t_weights : Nat) (sz : Nat) (t_states : Int32) (t_isKept : Int32) (t_length : Int32) (t_spot : Int32) (t_toldRows : Int32) (t_z : Nat → Int32) (t_order : Nat → Int32) (t_rowsTaken : Nat → Int32) (t_columnsTaken : Nat → Int32) (r : Int64) (o_t_order : Nat → Int32) (o_t_rowsTaken : Nat → Int32) (o_t_columnsTaken : Nat → Int32) (h : f_X10_determinant t_z t_order t_rowsTaken t_columnsTaken = some (r, o_t_order, o_t_rowsTaken, o_t_columnsTaken)) : Met l yX10_determinant wsX10_determinant ({ frames := 2, cells := 0, slots := 0, locals := 48 } : Room) (va_Pc [.ref q_t] (pcW G [(q_t, .inr (9, [.ref q_t_z, .ref q_t_old, .ref q_t_past, .int t_states, .ref q_t_kept, .int t_isKept, .ref q_t_text, .int t_length, .ref q_t_order, .ref q_t_told, .int t_spot, .int t_toldRows, .ref q_t_rowsTaken, .ref q_t_columnsTaken, .ref q_t_ways, .ref q_t_scaled, .ref q_t_rowFactors, .ref q_t_columnFactors, .ref q_t_rest, .ref q_t_diagonals, .ref q_t_weights])), (q_t_z, .inl (G.2 0, 50, .inl t_z)), (q_t_order, .inl (G.2 0, 7, .inl t_order)), (q_t_rowsTaken, .inl (G.2 0, 7, .inl t_rowsTaken)), (q_t_columnsTaken, .inl (G.2 0, 7, .inl t_columnsTaken))] sz)) (va_Ql (fun r9 (_ : Unit) => r9 = r) (fun _ t => atW G (va_A [(q_t, .inr (9, [.ref q_t_z, .ref q_t_old, .ref q_t_past, .int t_states, .ref q_t_kept, .int t_isKept, .ref q_t_text, .int t_length, .ref q_t_order, .ref q_t_told, .int t_spot, .int t_toldRows, .ref q_t_rowsTaken, .ref q_t_columnsTaken, .ref q_t_ways, .ref q_t_scaled, .ref q_t_rowFactors, .ref q_t_columnFactors, .ref q_t_rest, .ref q_t_diagonals, .ref q_t_weights])), (q_t_z, .inl (G.2 0, 50, .inl t_z)), (q_t_order, .inl (G.2 0, 7, .inl t_order)), (q_t_rowsTaken, .inl (G.2 0, 7, .inl t_rowsTaken)), (q_t_columnsTaken, .inl (G.2 0, 7, .inl t_columnsTaken))] sz) [(q_t, .inr (9, [.ref q_t_z, .ref q_t_old, .ref q_t_past, .int t_states, .ref q_t_kept, .int t_isKept, .ref q_t_text, .int t_length, .ref q_t_order, .ref q_t_told, .int t_spot, .int t_toldRows, .ref q_t_rowsTaken, .ref q_t_columnsTaken, .ref q_t_ways, .ref q_t_scaled, .ref q_t_rowFactors, .ref q_t_columnFactors, .ref q_t_rest, .ref q_t_diagonals, .ref q_t_weights])), (q_t_z, .inl (G.2 0, 50, .inl t_z)), (q_t_order, .inl (G.2 0, 7, .inl o_t_order)), (q_t_rowsTaken, .inl (G.2 0, 7, .inl o_t_rowsTaken)), (q_t_columnsTaken, .inl (G.2 0, 7, .inl o_t_columnsTaken))] t) (va_A [(q_t, .inr (9, [.ref q_t_z, .ref q_t_old, .ref q_t_past, .int t_states, .ref q_t_kept, .int t_isKept, .ref q_t_text, .int t_length, .ref q_t_order, .ref q_t_told, .int t_spot, .int t_toldRows, .ref q_t_rowsTaken, .ref q_t_columnsTaken, .ref q_t_ways, .ref q_t_scaled, .ref q_t_rowFactors, .ref q_t_columnFactors, .ref q_t_rest, .ref q_t_diagonals, .ref q_t_weights])), (q_t_z, .inl (G.2 0, 50, .inl t_z)), (q_t_order, .inl (G.2 0, 7, .inl t_order)), (q_t_rowsTaken, .inl (G.2 0, 7, .inl t_rowsTaken)), (q_t_columnsTaken, .inl (G.2 0, 7, .inl t_columnsTaken))] sz)) 0 0 (va_A [(q_t, .inr (9, [.ref q_t_z, .ref q_t_old, .ref q_t_past, .int t_states, .ref q_t_kept, .int t_isKept, .ref q_t_text, .int t_length, .ref q_t_order, .ref q_t_told, .int t_spot, .int t_toldRows, .ref q_t_rowsTaken, .ref q_t_columnsTaken, .ref q_t_ways, .ref q_t_scaled, .ref q_t_rowFactors, .ref q_t_columnFactors, .ref q_t_rest, .ref q_t_diagonals, .ref q_t_weights])), (q_t_z, .inl (G.2 0, 50, .inl t_z)), (q_t_order, .inl (G.2 0, 7, .inl t_order)), (q_t_rowsTaken, .inl (G.2 0, 7, .inl t_rowsTaken)), (q_t_columnsTaken, .inl (G.2 0, 7, .inl t_columnsTaken))] sz) := by
  refine Met.ofW (cc := cX10_determinant) (maxL := 6) (ret := (some .long)) (by decide) rfl ?_
  intro p e s m args below meth c s₁ B hml hv
  obtain ⟨rfl, hsz, hP, hK, hD0⟩ := hv
  subst hsz
  have hD := hD0.self (sz := s.heap.size)
  generalize hAe : va_A [(q_t, .inr (9, [.ref q_t_z, .ref q_t_old, .ref q_t_past, .int t_states, .ref q_t_kept, .int t_isKept, .ref q_t_text, .int t_length, .ref q_t_order, .ref q_t_told, .int t_spot, .int t_toldRows, .ref q_t_rowsTaken, .ref q_t_columnsTaken, .ref q_t_ways, .ref q_t_scaled, .ref q_t_rowFactors, .ref q_t_columnFactors, .ref q_t_rest, .ref q_t_diagonals, .ref q_t_weights])), (q_t_z, .inl (G.2 0, 50, .inl t_z)), (q_t_order, .inl (G.2 0, 7, .inl t_order)), (q_t_rowsTaken, .inl (G.2 0, 7, .inl t_rowsTaken)), (q_t_columnsTaken, .inl (G.2 0, 7, .inl t_columnsTaken))] s.heap.size = A at hD ⊢
  have hA : ∀ q : Nat, s.heap.size ≤ q → A q := fun q h => by rw [← hAe]; exact Or.inr h
  have hl := lv_entry ([.ref q_t]) (n := 6) (Nat.le_of_ble_eq_true rfl)
  rw [lg_entry_eq]
  refine k_X10_determinant ⟨B.exec, B.bytes, hml, findClass_of_methodNamed B.named, atoms_spec (ws := wsX10_determinant) B.pre⟩ G hK hA q_t q_t_z q_t_old q_t_past q_t_kept q_t_text q_t_order q_t_told q_t_rowsTaken q_t_columnsTaken q_t_ways q_t_scaled q_t_rowFactors q_t_columnFactors q_t_rest q_t_diagonals q_t_weights _ _ _ _ _ _ _ _ _ _ _ _ _ h ?_ _ _ _ hP hD va_S.rf hl
  intro H locs ls pc hd hP hD hS
  exact W.lret B.exec B.bytes B.returns (fun t ht hW => ⟨⟨r, (), rfl, rfl, by rw [ht]; exact hP, hD⟩, hS.F ht⟩) hS.2.2 hd B.notSynchronized
