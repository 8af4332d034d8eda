set_option maxRecDepth 20000 in
theorem wd_X0_begin_1 : Cond.fieldLink RX0 9 "PermanentDesk$ColumnSums" "sums" "[J" ∈ wsX0_begin := List.mem_of_getElem? (i := 1) (by decide +kernel)
set_option maxRecDepth 20000 in
theorem wi_X0_begin_X0 : ∀ w ∈ u_ws RX0 TX0 1, w ∈ wsX0_begin := by decide +kernel
def f_X0_begin_L1  : (Int32 × (Nat → Int64)) → Option ((Int32 × (Nat → Int64)) ⊕ (Nat → Int64))
  | (x1, t_sums) =>
    if (128 : Int32) ≤ x1 then
      some (.inr t_sums)
    else
      gd (okI x1 128) (
      pl ((vp_updL t_sums x1.toNatClampNeg (0 : Int64)) : Nat → Int64) (fun t_sums_3 =>
      pl ((x1 + (1 : Int32)) : Int32) (fun x1_4 =>
      some (.inl (x1_4, t_sums_3)))))
def f_X0_begin (t_sums : Nat → Int64) : Option (Nat → Int64) :=
  (lpN (f_X0_begin_L1) FU ((0 : Int32), t_sums)).bind (fun t_sums_5 =>
  gd (okI (0 : Int32) 128) (
  pl ((vp_updL t_sums_5 (0 : Int32).toNatClampNeg (1 : Int64)) : Nat → Int64) (fun t_sums_9 =>
  some t_sums_9)))
set_option maxHeartbeats 4000000 in
set_option maxRecDepth 100000 in
theorem l_X0_begin_1 {p : Program} {l : Launch} {e : Env} {s : State} {m : MethodId} {args : Array Value} {below : List Frame} {meth : Method} {c : Code} {Q : State → Prop} {A0 : Nat → Prop} {H0 : Heap} (C : CallFix p m c cX0_begin 2 s args wsX0_begin RX0) (G : GT) (hK : gK G s) (hA : ∀ q : Nat, H0.size ≤ q → A0 q) (q_t q_t_sums : Nat) (E_t_sums : Nat → Int64) (K : ∀ (H : Heap) (locs : List Loc) (ls : Array Slot), va_P G.1 vwCl [(q_t, .inr (0, [.ref q_t_sums])), (q_t_sums, .inl (G.2 1, 128, .inr (.inl E_t_sums)))] H → va_D A0 [(q_t, .inr (0, [.ref q_t_sums])), (q_t_sums, .inl (G.2 1, 128, .inr (.inl E_t_sums)))] → va_S A0 H0 H locs → lv_has ls 2 [(0, .ref q_t)] → W p l e ({ frames := 0, cells := 0, slots := 0, locals := 0 } : Room) s m args below meth c H locs 0 0 Q (F0 m 22 ls [])) : ∀ (n : Nat) (x1 : Int32) (t_sums : Nat → Int64), lpN (f_X0_begin_L1) n (x1, t_sums) = some E_t_sums → ∀ (H : Heap) (locs : List Loc) (ls : Array Slot), va_P G.1 vwCl [(q_t, .inr (0, [.ref q_t_sums])), (q_t_sums, .inl (G.2 1, 128, .inr (.inl t_sums)))] H → va_D A0 [(q_t, .inr (0, [.ref q_t_sums])), (q_t_sums, .inl (G.2 1, 128, .inr (.inl t_sums)))] → va_S A0 H0 H locs → lv_has ls 2 [(0, .ref q_t), (1, .int x1)] → W p l e ({ frames := 0, cells := 0, slots := 0, locals := 0 } : Room) s m args below meth c H locs 0 0 Q (F0 m 2 ls []) := by
  obtain ⟨hx, hb, hml, hown, hts⟩ := C
  intro n
  induction n with
  | zero => intro x1 t_sums h; exact absurd h (fun h => lp_0 h)
  | succ n ih =>
    intro x1 t_sums h H locs ls hP hD hS hl
    obtain ⟨y, h, hk⟩ := lp_s h
    rw [f_X0_begin_L1] at h
    refine lv_iload_n hx hb dX0_begin_2 rfl (lv_at hl 1 rfl) ?_
    refine lv_sipush (v := 128) hx hb dX0_begin_3 (by decide) ?_
    refine lv_icmp_ge (tgt := 22) hx hb dX0_begin_6 (by decide) (fun c_1 => ?_) (fun c_1 => ?_)
    · replace h := it_t h c_1
      obtain rfl := sm1 h
      obtain rfl := sm1 hk
      exact K H locs ls hP hD hS (lv_sub hl [0] rfl)
    · replace h := it_f h c_1
      refine lv_aload_n hx hb dX0_begin_9 rfl (lv_at hl 0 rfl) ?_
      refine va_get (D := G.1) (ci := 0) (v := .ref q_t_sums) (C := RX0) (T := TX0) (N := 1) hx hb hts wi_X0_begin_X0 hown hK hP 0 rfl rfl 0 (by decide) (hts _ wd_X0_begin_1) (fun _ h9 => h9) rfl dX0_begin_10 ?_
      refine lv_iload_n hx hb dX0_begin_13 rfl (lv_at hl 1 rfl) ?_
      refine lv_lconst (v := 0) hx hb dX0_begin_14 (by decide) ?_
      obtain ⟨g_2, h⟩ := gd_ok h
      obtain ⟨t_sums_3, et_sums_3, h⟩ := pl_ok h
      refine st_l (D := G.1) (wn := [(q_t, .inr (0, [.ref q_t_sums])), (q_t_sums, .inl (G.2 1, 128, .inr (.inl t_sums_3)))]) hx hb hK hP hD hS 1 1 rfl rfl g_2 dX0_begin_15 et_sums_3 rfl (fun H locs hP hD hS => ?_)
      obtain ⟨x1_4, ex1_4, h⟩ := pl_ok h
      refine lv_iinc (v := x1_4) (lv' := [(1, .int x1_4), (0, .ref q_t)]) hx hb dX0_begin_16 hl (k := 1) rfl (by rw [ex1_4]; rfl) (by decide) rfl (fun ls hl => ?_)
      refine lv_goto (tgt := 2) hx hb dX0_begin_19 (by decide) ?_
      obtain rfl := sm1 h
      exact ih x1_4 t_sums_3 hk H locs ls hP hD hS (lv_sub hl [1, 0] rfl)
set_option maxHeartbeats 4000000 in
set_option maxRecDepth 100000 in
theorem k_X0_begin {p : Program} {l : Launch} {e : Env} {s : State} {m : MethodId} {args : Array Value} {below : List Frame} {meth : Method} {c : Code} {Q : State → Prop} {A0 : Nat → Prop} {H0 : Heap} (C : CallFix p m c cX0_begin 2 s args wsX0_begin RX0) (G : GT) (hK : gK G s) (hA : ∀ q : Nat, H0.size ≤ q → A0 q) (q_t q_t_sums : Nat) (t_sums : Nat → Int64) (o_t_sums : Nat → Int64) (h : f_X0_begin t_sums = some o_t_sums) (KR : ∀ (H : Heap) (locs : List Loc) (ls : Array Slot) (pc : Nat), decode cX0_begin pc = .ok (.return_, 1) → va_P G.1 vwCl [(q_t, .inr (0, [.ref q_t_sums])), (q_t_sums, .inl (G.2 1, 128, .inr (.inl o_t_sums)))] H → va_D A0 [(q_t, .inr (0, [.ref q_t_sums])), (q_t_sums, .inl (G.2 1, 128, .inr (.inl o_t_sums)))] → va_S A0 H0 H locs → W p l e ({ frames := 0, cells := 0, slots := 0, locals := 0 } : Room) s m args below meth c H locs 0 0 Q (F0 m pc ls [])) : ∀ (H : Heap) (locs : List Loc) (ls : Array Slot), va_P G.1 vwCl [(q_t, .inr (0, [.ref q_t_sums])), (q_t_sums, .inl (G.2 1, 128, .inr (.inl t_sums)))] H → va_D A0 [(q_t, .inr (0, [.ref q_t_sums])), (q_t_sums, .inl (G.2 1, 128, .inr (.inl t_sums)))] → va_S A0 H0 H locs → lv_has ls 2 [(0, .ref q_t)] → W p l e ({ frames := 0, cells := 0, slots := 0, locals := 0 } : Room) s m args below meth c H locs 0 0 Q (F0 m 0 ls []) := by
  obtain ⟨hx, hb, hml, hown, hts⟩ := C
  intro H locs ls hP hD hS hl
  rw [f_X0_begin] at h
  refine lv_iconst (v := 0) hx hb dX0_begin_0 (by decide) ?_
  refine lv_istore_n (lv' := [(1, .int (0 : Int32)), (0, .ref q_t)]) hx hb dX0_begin_1 rfl hl (by decide) rfl (fun ls hl => ?_)
  obtain ⟨t_sums_5, hz_7, h⟩ := bd_ok h
  refine l_X0_begin_1 ⟨hx, hb, hml, hown, hts⟩ G hK hA q_t q_t_sums t_sums_5 ?_ FU (0 : Int32) t_sums hz_7 H locs ls hP hD hS (lv_sub hl [1, 0] rfl)
  intro H locs ls hP hD hS hl
  refine lv_aload_n hx hb dX0_begin_22 rfl (lv_at hl 0 rfl) ?_
  refine va_get (D := G.1) (ci := 0) (v := .ref q_t_sums) (C := RX0) (T := TX0) (N := 1) hx hb hts wi_X0_begin_X0 hown hK hP 0 rfl rfl 0 (by decide) (hts _ wd_X0_begin_1) (fun _ h9 => h9) rfl dX0_begin_23 ?_
  refine lv_iconst (v := 0) hx hb dX0_begin_26 (by decide) ?_
  refine lv_lconst (v := 1) hx hb dX0_begin_27 (by decide) ?_
  obtain ⟨g_8, h⟩ := gd_ok h
  obtain ⟨t_sums_9, et_sums_9, h⟩ := pl_ok h
  refine st_l (D := G.1) (wn := [(q_t, .inr (0, [.ref q_t_sums])), (q_t_sums, .inl (G.2 1, 128, .inr (.inl t_sums_9)))]) hx hb hK hP hD hS 1 1 rfl rfl g_8 dX0_begin_28 et_sums_9 rfl (fun H locs hP hD hS => ?_)
  obtain rfl := sm1 h
  exact KR H locs ls 29 dX0_begin_29 hP hD hS
set_option maxHeartbeats 4000000 in
set_option maxRecDepth 100000 in
theorem c_X0_begin (l : Launch) (G : GT) (q_t q_t_sums : Nat) (sz : Nat) (t_sums : Nat → Int64) (o_t_sums : Nat → Int64) (h : f_X0_begin t_sums = some o_t_sums) : Met l yX0_begin wsX0_begin ({ frames := 0, cells := 0, slots := 0, locals := 0 } : Room) (va_Pc [.ref q_t] (pcW G [(q_t, .inr (0, [.ref q_t_sums])), (q_t_sums, .inl (G.2 1, 128, .inr (.inl t_sums)))] sz)) (va_Qv (fun (_ : Unit) => True) (fun _ t => atW G (va_A [(q_t, .inr (0, [.ref q_t_sums])), (q_t_sums, .inl (G.2 1, 128, .inr (.inl t_sums)))] sz) [(q_t, .inr (0, [.ref q_t_sums])), (q_t_sums, .inl (G.2 1, 128, .inr (.inl o_t_sums)))] t) (va_A [(q_t, .inr (0, [.ref q_t_sums])), (q_t_sums, .inl (G.2 1, 128, .inr (.inl t_sums)))] sz)) 0 0 (va_A [(q_t, .inr (0, [.ref q_t_sums])), (q_t_sums, .inl (G.2 1, 128, .inr (.inl t_sums)))] sz) := by
  refine Met.ofW (cc := cX0_begin) (maxL := 2) (ret := none) (by decide) rfl ?_
  intro p e s m args below meth c s₁ B hml hv
  obtain ⟨rfl, hsz, hP, hK, hD0⟩ := hv
  subst hsz
  have hD := hD0.self (sz := s.heap.size)
  generalize hAe : va_A [(q_t, .inr (0, [.ref q_t_sums])), (q_t_sums, .inl (G.2 1, 128, .inr (.inl t_sums)))] s.heap.size = A at hD ⊢
  have hA : ∀ q : Nat, s.heap.size ≤ q → A q := fun q h => by rw [← hAe]; exact Or.inr h
  have hl := lv_entry ([.ref q_t]) (n := 2) (Nat.le_of_ble_eq_true rfl)
  rw [lg_entry_eq]
  refine k_X0_begin ⟨B.exec, B.bytes, hml, findClass_of_methodNamed B.named, atoms_spec (ws := wsX0_begin) B.pre⟩ G hK hA q_t q_t_sums _ _ h ?_ _ _ _ hP hD va_S.rf hl
  intro H locs ls pc hd hP hD hS
  exact W.vret B.exec B.bytes B.returns (fun t ht hW => ⟨⟨(), rfl, trivial, by rw [ht]; exact hP, hD⟩, hS.F ht⟩) hS.2.2 hd B.notSynchronized
set_option maxRecDepth 20000 in
theorem wd_X0_of_1 : Cond.fieldLink RX0 9 "PermanentDesk$ColumnSums" "sums" "[J" ∈ wsX0_of := List.mem_of_getElem? (i := 1) (by decide +kernel)
set_option maxRecDepth 20000 in
theorem wi_X0_of_X0 : ∀ w ∈ u_ws RX0 TX0 1, w ∈ wsX0_of := by decide +kernel
def f_X0_of (t_sums : Nat → Int64) (a1 : Int32) : Option Int64 :=
  if a1 < 0 then
    some (0 : Int64)
  else
    if (128 : Int32) ≤ a1 then
      some (0 : Int64)
    else
      gd (okI a1 128) (
      some (t_sums a1.toNatClampNeg))
set_option maxHeartbeats 4000000 in
set_option maxRecDepth 100000 in
theorem k_X0_of {p : Program} {l : Launch} {e : Env} {s : State} {m : MethodId} {args : Array Value} {below : List Frame} {meth : Method} {c : Code} {Q : State → Prop} {A0 : Nat → Prop} {H0 : Heap} (C : CallFix p m c cX0_of 2 s args wsX0_of RX0) (G : GT) (hK : gK G s) (hA : ∀ q : Nat, H0.size ≤ q → A0 q) (q_t q_t_sums : Nat) (t_sums : Nat → Int64) (a1 : Int32) (r : Int64) (h : f_X0_of t_sums a1 = some r) (KR : ∀ (H : Heap) (locs : List Loc) (ls : Array Slot) (pc : Nat), decode cX0_of pc = .ok (.lreturn, 1) → va_P G.1 vwCl [(q_t, .inr (0, [.ref q_t_sums])), (q_t_sums, .inl (G.2 1, 128, .inr (.inl t_sums)))] H → va_D A0 [(q_t, .inr (0, [.ref q_t_sums])), (q_t_sums, .inl (G.2 1, 128, .inr (.inl t_sums)))] → va_S A0 H0 H locs → W p l e ({ frames := 0, cells := 0, slots := 0, locals := 0 } : Room) s m args below meth c H locs 0 0 Q (F0 m pc ls [.long r])) : ∀ (H : Heap) (locs : List Loc) (ls : Array Slot), va_P G.1 vwCl [(q_t, .inr (0, [.ref q_t_sums])), (q_t_sums, .inl (G.2 1, 128, .inr (.inl t_sums)))] H → va_D A0 [(q_t, .inr (0, [.ref q_t_sums])), (q_t_sums, .inl (G.2 1, 128, .inr (.inl t_sums)))] → va_S A0 H0 H locs → lv_has ls 2 [(0, .ref q_t), (1, .int a1)] → W p l e ({ frames := 0, cells := 0, slots := 0, locals := 0 } : Room) s m args below meth c H locs 0 0 Q (F0 m 0 ls []) := by
  obtain ⟨hx, hb, hml, hown, hts⟩ := C
  intro H locs ls hP hD hS hl
  rw [f_X0_of] at h
  refine lv_iload_n hx hb dX0_of_0 rfl (lv_at hl 1 rfl) ?_
  refine lv_if_lt (tgt := 20) hx hb dX0_of_1 (by decide) (fun c_1 => ?_) (fun c_1 => ?_)
  · replace h := it_t h c_1
    refine lv_lconst (v := 0) hx hb dX0_of_20 (by decide) ?_
    obtain rfl := sm1 h
    exact KR H locs ls 21 dX0_of_21 hP hD hS
  · replace h := it_f h c_1
    refine lv_iload_n hx hb dX0_of_4 rfl (lv_at hl 1 rfl) ?_
    refine lv_sipush (v := 128) hx hb dX0_of_5 (by decide) ?_
    refine lv_icmp_ge (tgt := 20) hx hb dX0_of_8 (by decide) (fun c_2 => ?_) (fun c_2 => ?_)
    · replace h := it_t h c_2
      refine lv_lconst (v := 0) hx hb dX0_of_20 (by decide) ?_
      obtain rfl := sm1 h
      exact KR H locs ls 21 dX0_of_21 hP hD hS
    · replace h := it_f h c_2
      refine lv_aload_n hx hb dX0_of_11 rfl (lv_at hl 0 rfl) ?_
      refine va_get (D := G.1) (ci := 0) (v := .ref q_t_sums) (C := RX0) (T := TX0) (N := 1) hx hb hts wi_X0_of_X0 hown hK hP 0 rfl rfl 0 (by decide) (hts _ wd_X0_of_1) (fun _ h9 => h9) rfl dX0_of_12 ?_
      refine lv_iload_n hx hb dX0_of_15 rfl (lv_at hl 1 rfl) ?_
      obtain ⟨g_3, h⟩ := gd_ok h
      refine va_lald (D := G.1) hx hb hK hP 1 1 rfl rfl g_3 dX0_of_16 ?_
      refine lv_goto (tgt := 21) hx hb dX0_of_17 (by decide) ?_
      obtain rfl := sm1 h
      exact KR H locs ls 21 dX0_of_21 hP hD hS
set_option maxHeartbeats 4000000 in
set_option maxRecDepth 100000 in
theorem c_X0_of (l : Launch) (G : GT) (q_t q_t_sums : Nat) (sz : Nat) (t_sums : Nat → Int64) (a1 : Int32) (r : Int64) (h : f_X0_of t_sums a1 = some r) : Met l yX0_of wsX0_of ({ frames := 0, cells := 0, slots := 0, locals := 0 } : Room) (va_Pc [.ref q_t, .int a1] (pcW G [(q_t, .inr (0, [.ref q_t_sums])), (q_t_sums, .inl (G.2 1, 128, .inr (.inl t_sums)))] sz)) (va_Ql (fun r9 (_ : Unit) => r9 = r) (fun _ t => atW G (va_A [(q_t, .inr (0, [.ref q_t_sums])), (q_t_sums, .inl (G.2 1, 128, .inr (.inl t_sums)))] sz) [(q_t, .inr (0, [.ref q_t_sums])), (q_t_sums, .inl (G.2 1, 128, .inr (.inl t_sums)))] t) (va_A [(q_t, .inr (0, [.ref q_t_sums])), (q_t_sums, .inl (G.2 1, 128, .inr (.inl t_sums)))] sz)) 0 0 (va_A [(q_t, .inr (0, [.ref q_t_sums])), (q_t_sums, .inl (G.2 1, 128, .inr (.inl t_sums)))] sz) := by
  refine Met.ofW (cc := cX0_of) (maxL := 2) (ret := (some .long)) (by decide) rfl ?_
  intro p e s m args below meth c s₁ B hml hv
  obtain ⟨rfl, hsz, hP, hK, hD0⟩ := hv
  subst hsz
  have hD := hD0.self (sz := s.heap.size)
  generalize hAe : va_A [(q_t, .inr (0, [.ref q_t_sums])), (q_t_sums, .inl (G.2 1, 128, .inr (.inl t_sums)))] s.heap.size = A at hD ⊢
  have hA : ∀ q : Nat, s.heap.size ≤ q → A q := fun q h => by rw [← hAe]; exact Or.inr h
  have hl := lv_entry ([.ref q_t, .int a1]) (n := 2) (Nat.le_of_ble_eq_true rfl)
  rw [lg_entry_eq]
  refine k_X0_of ⟨B.exec, B.bytes, hml, findClass_of_methodNamed B.named, atoms_spec (ws := wsX0_of) B.pre⟩ G hK hA q_t q_t_sums _ _ _ h ?_ _ _ _ hP hD va_S.rf hl
  intro H locs ls pc hd hP hD hS
  exact W.lret B.exec B.bytes B.returns (fun t ht hW => ⟨⟨r, (), rfl, rfl, by rw [ht]; exact hP, hD⟩, hS.F ht⟩) hS.2.2 hd B.notSynchronized
set_option maxRecDepth 20000 in
theorem wd_X0_put_1 : Cond.fieldLink RX0 9 "PermanentDesk$ColumnSums" "sums" "[J" ∈ wsX0_put := List.mem_of_getElem? (i := 1) (by decide +kernel)
set_option maxRecDepth 20000 in
theorem wi_X0_put_X0 : ∀ w ∈ u_ws RX0 TX0 1, w ∈ wsX0_put := by decide +kernel
def f_X0_put (t_sums : Nat → Int64) (a1 : Int32) (a2 : Int64) : Option (Nat → Int64) :=
  if a1 < 0 then
    some t_sums
  else
    if (128 : Int32) ≤ a1 then
      some t_sums
    else
      gd (okI a1 128) (
      pl ((vp_updL t_sums a1.toNatClampNeg a2) : Nat → Int64) (fun t_sums_4 =>
      some t_sums_4))
set_option maxHeartbeats 4000000 in
set_option maxRecDepth 100000 in
theorem k_X0_put {p : Program} {l : Launch} {e : Env} {s : State} {m : MethodId} {args : Array Value} {below : List Frame} {meth : Method} {c : Code} {Q : State → Prop} {A0 : Nat → Prop} {H0 : Heap} (C : CallFix p m c cX0_put 4 s args wsX0_put RX0) (G : GT) (hK : gK G s) (hA : ∀ q : Nat, H0.size ≤ q → A0 q) (q_t q_t_sums : Nat) (t_sums : Nat → Int64) (a1 : Int32) (a2 : Int64) (o_t_sums : Nat → Int64) (h : f_X0_put t_sums a1 a2 = some o_t_sums) (KR : ∀ (H : Heap) (locs : List Loc) (ls : Array Slot) (pc : Nat), decode cX0_put pc = .ok (.return_, 1) → va_P G.1 vwCl [(q_t, .inr (0, [.ref q_t_sums])), (q_t_sums, .inl (G.2 1, 128, .inr (.inl o_t_sums)))] H → va_D A0 [(q_t, .inr (0, [.ref q_t_sums])), (q_t_sums, .inl (G.2 1, 128, .inr (.inl o_t_sums)))] → va_S A0 H0 H locs → W p l e ({ frames := 0, cells := 0, slots := 0, locals := 0 } : Room) s m args below meth c H locs 0 0 Q (F0 m pc ls [])) : ∀ (H : Heap) (locs : List Loc) (ls : Array Slot), va_P G.1 vwCl [(q_t, .inr (0, [.ref q_t_sums])), (q_t_sums, .inl (G.2 1, 128, .inr (.inl t_sums)))] H → va_D A0 [(q_t, .inr (0, [.ref q_t_sums])), (q_t_sums, .inl (G.2 1, 128, .inr (.inl t_sums)))] → va_S A0 H0 H locs → lv_has ls 4 [(0, .ref q_t), (1, .int a1), (2, .long a2)] → W p l e ({ frames := 0, cells := 0, slots := 0, locals := 0 } : Room) s m args below meth c H locs 0 0 Q (F0 m 0 ls []) := by
  obtain ⟨hx, hb, hml, hown, hts⟩ := C
  intro H locs ls hP hD hS hl
  rw [f_X0_put] at h
  refine lv_iload_n hx hb dX0_put_0 rfl (lv_at hl 1 rfl) ?_
  refine lv_if_lt (tgt := 18) hx hb dX0_put_1 (by decide) (fun c_1 => ?_) (fun c_1 => ?_)
  · replace h := it_t h c_1
    obtain rfl := sm1 h
    exact KR H locs ls 18 dX0_put_18 hP hD hS
  · replace h := it_f h c_1
    refine lv_iload_n hx hb dX0_put_4 rfl (lv_at hl 1 rfl) ?_
    refine lv_sipush (v := 128) hx hb dX0_put_5 (by decide) ?_
    refine lv_icmp_ge (tgt := 18) hx hb dX0_put_8 (by decide) (fun c_2 => ?_) (fun c_2 => ?_)
    · replace h := it_t h c_2
      obtain rfl := sm1 h
      exact KR H locs ls 18 dX0_put_18 hP hD hS
    · replace h := it_f h c_2
      refine lv_aload_n hx hb dX0_put_11 rfl (lv_at hl 0 rfl) ?_
      refine va_get (D := G.1) (ci := 0) (v := .ref q_t_sums) (C := RX0) (T := TX0) (N := 1) hx hb hts wi_X0_put_X0 hown hK hP 0 rfl rfl 0 (by decide) (hts _ wd_X0_put_1) (fun _ h9 => h9) rfl dX0_put_12 ?_
      refine lv_iload_n hx hb dX0_put_15 rfl (lv_at hl 1 rfl) ?_
      refine lv_lload_n hx hb dX0_put_16 rfl (lv_at hl 2 rfl) ?_
      obtain ⟨g_3, h⟩ := gd_ok h
      obtain ⟨t_sums_4, et_sums_4, h⟩ := pl_ok h
      refine st_l (D := G.1) (wn := [(q_t, .inr (0, [.ref q_t_sums])), (q_t_sums, .inl (G.2 1, 128, .inr (.inl t_sums_4)))]) hx hb hK hP hD hS 1 1 rfl rfl g_3 dX0_put_17 et_sums_4 rfl (fun H locs hP hD hS => ?_)
      obtain rfl := sm1 h
      exact KR H locs ls 18 dX0_put_18 hP hD hS
set_option maxHeartbeats 4000000 in
set_option maxRecDepth 100000 in
theorem c_X0_put (l : Launch) (G : GT) (q_t q_t_sums : Nat) (sz : Nat) (t_sums : Nat → Int64) (a1 : Int32) (a2 : Int64) (o_t_sums : Nat → Int64) (h : f_X0_put t_sums a1 a2 = some o_t_sums) : Met l yX0_put wsX0_put ({ frames := 0, cells := 0, slots := 0, locals := 0 } : Room) (va_Pc [.ref q_t, .int a1, .long a2] (pcW G [(q_t, .inr (0, [.ref q_t_sums])), (q_t_sums, .inl (G.2 1, 128, .inr (.inl t_sums)))] sz)) (va_Qv (fun (_ : Unit) => True) (fun _ t => atW G (va_A [(q_t, .inr (0, [.ref q_t_sums])), (q_t_sums, .inl (G.2 1, 128, .inr (.inl t_sums)))] sz) [(q_t, .inr (0, [.ref q_t_sums])), (q_t_sums, .inl (G.2 1, 128, .inr (.inl o_t_sums)))] t) (va_A [(q_t, .inr (0, [.ref q_t_sums])), (q_t_sums, .inl (G.2 1, 128, .inr (.inl t_sums)))] sz)) 0 0 (va_A [(q_t, .inr (0, [.ref q_t_sums])), (q_t_sums, .inl (G.2 1, 128, .inr (.inl t_sums)))] sz) := by
  refine Met.ofW (cc := cX0_put) (maxL := 4) (ret := none) (by decide) rfl ?_
  intro p e s m args below meth c s₁ B hml hv
  obtain ⟨rfl, hsz, hP, hK, hD0⟩ := hv
  subst hsz
  have hD := hD0.self (sz := s.heap.size)
  generalize hAe : va_A [(q_t, .inr (0, [.ref q_t_sums])), (q_t_sums, .inl (G.2 1, 128, .inr (.inl t_sums)))] s.heap.size = A at hD ⊢
  have hA : ∀ q : Nat, s.heap.size ≤ q → A q := fun q h => by rw [← hAe]; exact Or.inr h
  have hl := lv_entry ([.ref q_t, .int a1, .long a2]) (n := 4) (Nat.le_of_ble_eq_true rfl)
  rw [lg_entry_eq]
  refine k_X0_put ⟨B.exec, B.bytes, hml, findClass_of_methodNamed B.named, atoms_spec (ws := wsX0_put) B.pre⟩ G hK hA q_t q_t_sums _ _ _ _ h ?_ _ _ _ hP hD va_S.rf hl
  intro H locs ls pc hd hP hD hS
  exact W.vret B.exec B.bytes B.returns (fun t ht hW => ⟨⟨(), rfl, trivial, by rw [ht]; exact hP, hD⟩, hS.F ht⟩) hS.2.2 hd B.notSynchronized
def f_X0_sumWithRow_L1 (x2 : Int32) (x3 : Int32) (x4 : Int32) (t_sums : Nat → Int64) (a1_size : Int32) (a1_cells : Nat → Int32) : (Int64 × Int32) → Option ((Int64 × Int32) ⊕ Int64)
  | (x5, x7) =>
    (f_X4_size a1_size).bind (fun r_1 =>
    if r_1 ≤ x7 then
      some (.inr x5)
    else
      pl ((x3 &&& (((1 : Int32) <<< (x7 &&& 31)) ^^^ (-1 : Int32))) : Int32) (fun x8_4 =>
      if x8_4 = x3 then
        pl ((x7 + (1 : Int32)) : Int32) (fun x7_6 =>
        some (.inl (x5, x7_6)))
      else
        (f_X0_of t_sums x8_4).bind (fun r_7 =>
        (f_X4_at a1_size a1_cells x2 x7).bind (fun r_9 =>
        pl ((r_7 * r_9.toInt64) : Int64) (fun x9_11 =>
        (f_J6_bitCount_0f7a4 (x8_4 >>> (x7 &&& 31))).bind (fun r_12 =>
        Option.bind (
          if (r_12 &&& (1 : Int32)) = 0 then
            some (0 : Int32)
          else
            some (1 : Int32)) (fun y_15 =>
        if x4 = 0 then
          pl ((x5 + x9_11) : Int64) (fun x5_17 =>
          pl ((x7 + (1 : Int32)) : Int32) (fun x7_18 =>
          some (.inl (x5_17, x7_18))))
        else
          if y_15 = 0 then
            pl ((x5 + x9_11) : Int64) (fun x5_20 =>
            pl ((x7 + (1 : Int32)) : Int32) (fun x7_21 =>
            some (.inl (x5_20, x7_21))))
          else
            pl ((x5 + (-x9_11)) : Int64) (fun x5_22 =>
            pl ((x7 + (1 : Int32)) : Int32) (fun x7_23 =>
            some (.inl (x5_22, x7_23)))))))))))
def f_X0_sumWithRow (t_sums : Nat → Int64) (a1_size : Int32) (a1_cells : Nat → Int32) (a2 : Int32) (a3 : Int32) (a4 : Int32) : Option Int64 :=
  (lpN (f_X0_sumWithRow_L1 a2 a3 a4 t_sums a1_size a1_cells) FU ((0 : Int64), (0 : Int32))).bind (fun x5_24 =>
  some x5_24)
set_option maxHeartbeats 4000000 in
set_option maxRecDepth 100000 in
theorem l_X0_sumWithRow_1 {p : Program} {l : Launch} {e : Env} {s : State} {m : MethodId} {args : Array Value} {below : List Frame} {meth : Method} {c : Code} {Q : State → Prop} {A0 : Nat → Prop} {H0 : Heap} (C : CallFix p m c cX0_sumWithRow 12 s args wsX0_sumWithRow RX0) (G : GT) (hK : gK G s) (hA : ∀ q : Nat, H0.size ≤ q → A0 q) (q_t q_t_sums q_a1 q_a1_cells : Nat) (x2 : Int32) (x3 : Int32) (x4 : Int32) (t_sums : Nat → Int64) (a1_size : Int32) (a1_cells : Nat → Int32) (E_x5 : Int64) (K : ∀ (H : Heap) (locs : List Loc) (ls : Array Slot), va_P G.1 vwCl [(q_t, .inr (0, [.ref q_t_sums])), (q_t_sums, .inl (G.2 1, 128, .inr (.inl t_sums))), (q_a1, .inr (3, [.ref q_a1_cells, .int a1_size])), (q_a1_cells, .inl (G.2 0, 49, .inl a1_cells))] H → va_D A0 [(q_t, .inr (0, [.ref q_t_sums])), (q_t_sums, .inl (G.2 1, 128, .inr (.inl t_sums))), (q_a1, .inr (3, [.ref q_a1_cells, .int a1_size])), (q_a1_cells, .inl (G.2 0, 49, .inl a1_cells))] → va_S A0 H0 H locs → lv_has ls 12 [(5, .long E_x5)] → W p l e ({ frames := 2, cells := 0, slots := 0, locals := 43 } : Room) s m args below meth c H locs 0 0 Q (F0 m 97 ls [])) : ∀ (n : Nat) (x5 : Int64) (x7 : Int32), lpN (f_X0_sumWithRow_L1 x2 x3 x4 t_sums a1_size a1_cells) n (x5, x7) = some E_x5 → ∀ (H : Heap) (locs : List Loc) (ls : Array Slot), va_P G.1 vwCl [(q_t, .inr (0, [.ref q_t_sums])), (q_t_sums, .inl (G.2 1, 128, .inr (.inl t_sums))), (q_a1, .inr (3, [.ref q_a1_cells, .int a1_size])), (q_a1_cells, .inl (G.2 0, 49, .inl a1_cells))] H → va_D A0 [(q_t, .inr (0, [.ref q_t_sums])), (q_t_sums, .inl (G.2 1, 128, .inr (.inl t_sums))), (q_a1, .inr (3, [.ref q_a1_cells, .int a1_size])), (q_a1_cells, .inl (G.2 0, 49, .inl a1_cells))] → va_S A0 H0 H locs → lv_has ls 12 [(0, .ref q_t), (1, .ref q_a1), (2, .int x2), (3, .int x3), (4, .int x4), (5, .long x5), (7, .int x7)] → W p l e ({ frames := 2, cells := 0, slots := 0, locals := 43 } : Room) s m args below meth c H locs 0 0 Q (F0 m 6 ls []) := by
  obtain ⟨hx, hb, hml, hown, hts⟩ := C
  intro n
  induction n with
  | zero => intro x5 x7 h; exact absurd h (fun h => lp_0 h)
  | succ n ih =>
    intro x5 x7 h H locs ls hP hD hS hl
    obtain ⟨y, h, hk⟩ := lp_s h
    rw [f_X0_sumWithRow_L1] at h
    refine lv_iload hx hb dX0_sumWithRow_6 (lv_at hl 6 rfl) ?_
    refine lv_aload_n hx hb dX0_sumWithRow_8 rfl (lv_at hl 1 rfl) ?_
    obtain ⟨r_1, hf_2, h⟩ := bd_ok h
    refine ck_Vi (rest := [.int x7]) (wn := [(q_t, .inr (0, [.ref q_t_sums])), (q_t_sums, .inl (G.2 1, 128, .inr (.inl t_sums))), (q_a1, .inr (3, [.ref q_a1_cells, .int a1_size])), (q_a1_cells, .inl (G.2 0, 49, .inl a1_cells))]) ⟨hx, hb, hml, hown, hts⟩ hK hP hD hS hA [2] [0, 1, 3] [0, 1, 3, 2] (c_X4_size l G q_a1 q_a1_cells _ a1_size _ hf_2) (cwV 0 hts gX0_sumWithRow_X4_size rfl rfl rfl (by decide +kernel) ⟨Nat.le_of_ble_eq_true rfl, Nat.le_of_ble_eq_true rfl⟩) rfl rfl rfl rfl rfl rfl (by decide) rfl rfl rfl hl.1 rfl (Nat.le_of_ble_eq_true rfl) dX0_sumWithRow_9 ⟨Nat.zero_le _, Nat.zero_le _⟩ (fun H locs hP hD hS => ?_)
    refine lv_icmp_ge (tgt := 97) hx hb dX0_sumWithRow_12 (by decide) (fun c_3 => ?_) (fun c_3 => ?_)
    · replace h := it_t h c_3
      obtain rfl := sm1 h
      obtain rfl := sm1 hk
      exact K H locs ls hP hD hS (lv_sub hl [5] rfl)
    · replace h := it_f h c_3
      refine lv_iload_n hx hb dX0_sumWithRow_15 rfl (lv_at hl 3 rfl) ?_
      refine lv_iconst (v := 1) hx hb dX0_sumWithRow_16 (by decide) ?_
      refine lv_iload hx hb dX0_sumWithRow_17 (lv_at hl 6 rfl) ?_
      refine lv_ishl hx hb dX0_sumWithRow_19 ?_
      refine lv_iconst (v := -1) hx hb dX0_sumWithRow_20 (by decide) ?_
      refine lv_ixor hx hb dX0_sumWithRow_21 ?_
      refine lv_iand hx hb dX0_sumWithRow_22 ?_
      refine lv_topi (fun x8_4 ex8_4 => ?_)
      replace h := pl_v h ex8_4
      refine lv_istore (lv' := [(8, .int x8_4), (0, .ref q_t), (1, .ref q_a1), (2, .int x2), (3, .int x3), (4, .int x4), (5, .long x5), (7, .int x7)]) hx hb dX0_sumWithRow_23 hl (by decide) rfl (fun ls hl => ?_)
      refine lv_iload hx hb dX0_sumWithRow_25 (lv_at hl 0 rfl) ?_
      refine lv_iload_n hx hb dX0_sumWithRow_27 rfl (lv_at hl 4 rfl) ?_
      refine lv_icmp_eq (tgt := 91) hx hb dX0_sumWithRow_28 (by decide) (fun c_5 => ?_) (fun c_5 => ?_)
      · replace h := it_t h c_5
        obtain ⟨x7_6, ex7_6, h⟩ := pl_ok h
        refine lv_iinc (v := x7_6) (lv' := [(7, .int x7_6), (8, .int x8_4), (0, .ref q_t), (1, .ref q_a1), (2, .int x2), (3, .int x3), (4, .int x4), (5, .long x5)]) hx hb dX0_sumWithRow_91 hl (k := 7) rfl (by rw [ex7_6]; rfl) (by decide) rfl (fun ls hl => ?_)
        refine lv_goto (tgt := 6) hx hb dX0_sumWithRow_94 (by decide) ?_
        obtain rfl := sm1 h
        exact ih x5 x7_6 hk H locs ls hP hD hS (lv_sub hl [2, 3, 4, 5, 6, 7, 0] rfl)
      · replace h := it_f h c_5
        refine lv_aload_n hx hb dX0_sumWithRow_31 rfl (lv_at hl 1 rfl) ?_
        refine lv_iload hx hb dX0_sumWithRow_32 (lv_at hl 0 rfl) ?_
        obtain ⟨r_7, hf_8, h⟩ := bd_ok h
        refine ck_Vl (rest := []) (wn := [(q_t, .inr (0, [.ref q_t_sums])), (q_t_sums, .inl (G.2 1, 128, .inr (.inl t_sums))), (q_a1, .inr (3, [.ref q_a1_cells, .int a1_size])), (q_a1_cells, .inl (G.2 0, 49, .inl a1_cells))]) ⟨hx, hb, hml, hown, hts⟩ hK hP hD hS hA [0, 1] [2, 3] [2, 3, 0, 1] (c_X0_of l G q_t q_t_sums _ t_sums x8_4 _ hf_8) (cwV 1 hts gX0_sumWithRow_X0_of rfl rfl rfl (by decide +kernel) ⟨Nat.le_of_ble_eq_true rfl, Nat.le_of_ble_eq_true rfl⟩) rfl rfl rfl rfl rfl rfl (by decide) rfl rfl rfl hl.1 rfl (Nat.le_of_ble_eq_true rfl) dX0_sumWithRow_34 ⟨Nat.zero_le _, Nat.zero_le _⟩ (fun H locs hP hD hS => ?_)
        refine lv_aload_n hx hb dX0_sumWithRow_37 rfl (lv_at hl 2 rfl) ?_
        refine lv_iload_n hx hb dX0_sumWithRow_38 rfl (lv_at hl 3 rfl) ?_
        refine lv_iload hx hb dX0_sumWithRow_39 (lv_at hl 7 rfl) ?_
        obtain ⟨r_9, hf_10, h⟩ := bd_ok h
        refine ck_Vi (rest := [.long r_7]) (wn := [(q_t, .inr (0, [.ref q_t_sums])), (q_t_sums, .inl (G.2 1, 128, .inr (.inl t_sums))), (q_a1, .inr (3, [.ref q_a1_cells, .int a1_size])), (q_a1_cells, .inl (G.2 0, 49, .inl a1_cells))]) ⟨hx, hb, hml, hown, hts⟩ hK hP hD hS hA [2, 3] [0, 1] [0, 1, 2, 3] (c_X4_at l G q_a1 q_a1_cells _ a1_size a1_cells x2 x7 _ hf_10) (cwV 2 hts gX0_sumWithRow_X4_at rfl rfl rfl (by decide +kernel) ⟨Nat.le_of_ble_eq_true rfl, Nat.le_of_ble_eq_true rfl⟩) rfl rfl rfl rfl rfl rfl (by decide) rfl rfl rfl hl.1 rfl (Nat.le_of_ble_eq_true rfl) dX0_sumWithRow_41 ⟨Nat.zero_le _, Nat.zero_le _⟩ (fun H locs hP hD hS => ?_)
        refine lv_i2l hx hb dX0_sumWithRow_44 rfl ?_
        refine lv_lmul hx hb dX0_sumWithRow_45 ?_
        refine lv_topl (fun x9_11 ex9_11 => ?_)
        replace h := pl_v h ex9_11
        refine lv_lstore (lv' := [(9, .long x9_11), (8, .int x8_4), (0, .ref q_t), (1, .ref q_a1), (2, .int x2), (3, .int x3), (4, .int x4), (5, .long x5), (7, .int x7)]) hx hb dX0_sumWithRow_46 hl (by decide) rfl (fun ls hl => ?_)
        refine lv_iload hx hb dX0_sumWithRow_48 (lv_at hl 1 rfl) ?_
        refine lv_iload hx hb dX0_sumWithRow_50 (lv_at hl 8 rfl) ?_
        refine lv_ishr hx hb dX0_sumWithRow_52 ?_
        obtain ⟨r_12, hf_13, h⟩ := bd_ok h
        refine ck_Si (rest := []) (wn := [(q_t, .inr (0, [.ref q_t_sums])), (q_t_sums, .inl (G.2 1, 128, .inr (.inl t_sums))), (q_a1, .inr (3, [.ref q_a1_cells, .int a1_size])), (q_a1_cells, .inl (G.2 0, 49, .inl a1_cells))]) ⟨hx, hb, hml, hown, hts⟩ hK hP hD hS hA [] [0, 1, 2, 3] [0, 1, 2, 3] (c_J6_bitCount_0f7a4 l G _ (x8_4 >>> (x7 &&& 31)) _ hf_13) (va_cwS 1 hts gX0_sumWithRow_J6_bitCount_0f7a4 rfl rfl rfl (by decide +kernel) ⟨Nat.le_of_ble_eq_true rfl, Nat.le_of_ble_eq_true rfl⟩) rfl rfl rfl rfl (by decide) rfl rfl rfl hl.1 rfl (Nat.le_of_ble_eq_true rfl) dX0_sumWithRow_53 ⟨Nat.zero_le _, Nat.zero_le _⟩ (fun H locs hP hD hS => ?_)
        refine lv_iconst (v := 1) hx hb dX0_sumWithRow_56 (by decide) ?_
        refine lv_iand hx hb dX0_sumWithRow_57 ?_
        obtain ⟨y_15, hr, h⟩ := bd_ok h
        have J : ∀ (H : Heap) (locs : List Loc) (ls : Array Slot), va_P G.1 vwCl [(q_t, .inr (0, [.ref q_t_sums])), (q_t_sums, .inl (G.2 1, 128, .inr (.inl t_sums))), (q_a1, .inr (3, [.ref q_a1_cells, .int a1_size])), (q_a1_cells, .inl (G.2 0, 49, .inl a1_cells))] H → va_D A0 [(q_t, .inr (0, [.ref q_t_sums])), (q_t_sums, .inl (G.2 1, 128, .inr (.inl t_sums))), (q_a1, .inr (3, [.ref q_a1_cells, .int a1_size])), (q_a1_cells, .inl (G.2 0, 49, .inl a1_cells))] → va_S A0 H0 H locs → lv_has ls 12 [(0, .ref q_t), (1, .ref q_a1), (2, .int x2), (3, .int x3), (4, .int x4), (5, .long x5), (7, .int x7), (9, .long x9_11)] → W p l e ({ frames := 2, cells := 0, slots := 0, locals := 43 } : Room) s m args below meth c H locs 0 0 Q (F0 m 66 ls [.int y_15]) := by
          intro H locs ls hP hD hS hl
          refine lv_istore (lv' := [(11, .int y_15), (0, .ref q_t), (1, .ref q_a1), (2, .int x2), (3, .int x3), (4, .int x4), (5, .long x5), (7, .int x7), (9, .long x9_11)]) hx hb dX0_sumWithRow_66 hl (by decide) rfl (fun ls hl => ?_)
          refine lv_lload hx hb dX0_sumWithRow_68 (lv_at hl 6 rfl) ?_
          refine lv_iload hx hb dX0_sumWithRow_70 (lv_at hl 5 rfl) ?_
          refine lv_if_eq (tgt := 86) hx hb dX0_sumWithRow_72 (by decide) (fun c_16 => ?_) (fun c_16 => ?_)
          · replace h := it_t h c_16
            refine lv_lload hx hb dX0_sumWithRow_86 (lv_at hl 8 rfl) ?_
            refine lv_ladd hx hb dX0_sumWithRow_88 ?_
            refine lv_topl (fun x5_17 ex5_17 => ?_)
            replace h := pl_v h ex5_17
            refine lv_lstore (lv' := [(5, .long x5_17), (11, .int y_15), (0, .ref q_t), (1, .ref q_a1), (2, .int x2), (3, .int x3), (4, .int x4), (7, .int x7), (9, .long x9_11)]) hx hb dX0_sumWithRow_89 hl (by decide) rfl (fun ls hl => ?_)
            obtain ⟨x7_18, ex7_18, h⟩ := pl_ok h
            refine lv_iinc (v := x7_18) (lv' := [(7, .int x7_18), (5, .long x5_17), (11, .int y_15), (0, .ref q_t), (1, .ref q_a1), (2, .int x2), (3, .int x3), (4, .int x4), (9, .long x9_11)]) hx hb dX0_sumWithRow_91 hl (k := 7) rfl (by rw [ex7_18]; rfl) (by decide) rfl (fun ls hl => ?_)
            refine lv_goto (tgt := 6) hx hb dX0_sumWithRow_94 (by decide) ?_
            obtain rfl := sm1 h
            exact ih x5_17 x7_18 hk H locs ls hP hD hS (lv_sub hl [3, 4, 5, 6, 7, 1, 0] rfl)
          · replace h := it_f h c_16
            refine lv_iload hx hb dX0_sumWithRow_75 (lv_at hl 0 rfl) ?_
            refine lv_if_eq (tgt := 86) hx hb dX0_sumWithRow_77 (by decide) (fun c_19 => ?_) (fun c_19 => ?_)
            · replace h := it_t h c_19
              refine lv_lload hx hb dX0_sumWithRow_86 (lv_at hl 8 rfl) ?_
              refine lv_ladd hx hb dX0_sumWithRow_88 ?_
              refine lv_topl (fun x5_20 ex5_20 => ?_)
              replace h := pl_v h ex5_20
              refine lv_lstore (lv' := [(5, .long x5_20), (11, .int y_15), (0, .ref q_t), (1, .ref q_a1), (2, .int x2), (3, .int x3), (4, .int x4), (7, .int x7), (9, .long x9_11)]) hx hb dX0_sumWithRow_89 hl (by decide) rfl (fun ls hl => ?_)
              obtain ⟨x7_21, ex7_21, h⟩ := pl_ok h
              refine lv_iinc (v := x7_21) (lv' := [(7, .int x7_21), (5, .long x5_20), (11, .int y_15), (0, .ref q_t), (1, .ref q_a1), (2, .int x2), (3, .int x3), (4, .int x4), (9, .long x9_11)]) hx hb dX0_sumWithRow_91 hl (k := 7) rfl (by rw [ex7_21]; rfl) (by decide) rfl (fun ls hl => ?_)
              refine lv_goto (tgt := 6) hx hb dX0_sumWithRow_94 (by decide) ?_
              obtain rfl := sm1 h
              exact ih x5_20 x7_21 hk H locs ls hP hD hS (lv_sub hl [3, 4, 5, 6, 7, 1, 0] rfl)
            · replace h := it_f h c_19
              refine lv_lload hx hb dX0_sumWithRow_80 (lv_at hl 8 rfl) ?_
              refine lv_lneg hx hb dX0_sumWithRow_82 ?_
              refine lv_goto (tgt := 88) hx hb dX0_sumWithRow_83 (by decide) ?_
              refine lv_ladd hx hb dX0_sumWithRow_88 ?_
              refine lv_topl (fun x5_22 ex5_22 => ?_)
              replace h := pl_v h ex5_22
              refine lv_lstore (lv' := [(5, .long x5_22), (11, .int y_15), (0, .ref q_t), (1, .ref q_a1), (2, .int x2), (3, .int x3), (4, .int x4), (7, .int x7), (9, .long x9_11)]) hx hb dX0_sumWithRow_89 hl (by decide) rfl (fun ls hl => ?_)
              obtain ⟨x7_23, ex7_23, h⟩ := pl_ok h
              refine lv_iinc (v := x7_23) (lv' := [(7, .int x7_23), (5, .long x5_22), (11, .int y_15), (0, .ref q_t), (1, .ref q_a1), (2, .int x2), (3, .int x3), (4, .int x4), (9, .long x9_11)]) hx hb dX0_sumWithRow_91 hl (k := 7) rfl (by rw [ex7_23]; rfl) (by decide) rfl (fun ls hl => ?_)
              refine lv_goto (tgt := 6) hx hb dX0_sumWithRow_94 (by decide) ?_
              obtain rfl := sm1 h
              exact ih x5_22 x7_23 hk H locs ls hP hD hS (lv_sub hl [3, 4, 5, 6, 7, 1, 0] rfl)
        replace h := hr
        clear hr
        refine lv_if_eq (tgt := 65) hx hb dX0_sumWithRow_58 (by decide) (fun c_14 => ?_) (fun c_14 => ?_)
        · replace h := it_t h c_14
          refine lv_iconst (v := 0) hx hb dX0_sumWithRow_65 (by decide) ?_
          obtain rfl := sm1 h
          exact J H locs ls hP hD hS (lv_sub hl [2, 3, 4, 5, 6, 7, 8, 0] rfl)
        · replace h := it_f h c_14
          refine lv_iconst (v := 1) hx hb dX0_sumWithRow_61 (by decide) ?_
          refine lv_goto (tgt := 66) hx hb dX0_sumWithRow_62 (by decide) ?_
          obtain rfl := sm1 h
          exact J H locs ls hP hD hS (lv_sub hl [2, 3, 4, 5, 6, 7, 8, 0] rfl)
set_option maxHeartbeats 4000000 in
set_option maxRecDepth 100000 in
theorem k_X0_sumWithRow {p : Program} {l : Launch} {e : Env} {s : State} {m : MethodId} {args : Array Value} {below : List Frame} {meth : Method} {c : Code} {Q : State → Prop} {A0 : Nat → Prop} {H0 : Heap} (C : CallFix p m c cX0_sumWithRow 12 s args wsX0_sumWithRow RX0) (G : GT) (hK : gK G s) (hA : ∀ q : Nat, H0.size ≤ q → A0 q) (q_t q_t_sums q_a1 q_a1_cells : Nat) (t_sums : Nat → Int64) (a1_size : Int32) (a1_cells : Nat → Int32) (a2 : Int32) (a3 : Int32) (a4 : Int32) (r : Int64) (h : f_X0_sumWithRow t_sums a1_size a1_cells a2 a3 a4 = some r) (KR : ∀ (H : Heap) (locs : List Loc) (ls : Array Slot) (pc : Nat), decode cX0_sumWithRow pc = .ok (.lreturn, 1) → va_P G.1 vwCl [(q_t, .inr (0, [.ref q_t_sums])), (q_t_sums, .inl (G.2 1, 128, .inr (.inl t_sums))), (q_a1, .inr (3, [.ref q_a1_cells, .int a1_size])), (q_a1_cells, .inl (G.2 0, 49, .inl a1_cells))] H → va_D A0 [(q_t, .inr (0, [.ref q_t_sums])), (q_t_sums, .inl (G.2 1, 128, .inr (.inl t_sums))), (q_a1, .inr (3, [.ref q_a1_cells, .int a1_size])), (q_a1_cells, .inl (G.2 0, 49, .inl a1_cells))] → va_S A0 H0 H locs → W p l e ({ frames := 2, cells := 0, slots := 0, locals := 43 } : Room) s m args below meth c H locs 0 0 Q (F0 m pc ls [.long r])) : ∀ (H : Heap) (locs : List Loc) (ls : Array Slot), va_P G.1 vwCl [(q_t, .inr (0, [.ref q_t_sums])), (q_t_sums, .inl (G.2 1, 128, .inr (.inl t_sums))), (q_a1, .inr (3, [.ref q_a1_cells, .int a1_size])), (q_a1_cells, .inl (G.2 0, 49, .inl a1_cells))] H → va_D A0 [(q_t, .inr (0, [.ref q_t_sums])), (q_t_sums, .inl (G.2 1, 128, .inr (.inl t_sums))), (q_a1, .inr (3, [.ref q_a1_cells, .int a1_size])), (q_a1_cells, .inl (G.2 0, 49, .inl a1_cells))] → va_S A0 H0 H locs → lv_has ls 12 [(0, .ref q_t), (1, .ref q_a1), (2, .int a2), (3, .int a3), (4, .int a4)] → W p l e ({ frames := 2, cells := 0, slots := 0, locals := 43 } : Room) s m args below meth c H locs 0 0 Q (F0 m 0 ls []) := by
  obtain ⟨hx, hb, hml, hown, hts⟩ := C
  intro H locs ls hP hD hS hl
  rw [f_X0_sumWithRow] at h
  refine lv_lconst (v := 0) hx hb dX0_sumWithRow_0 (by decide) ?_
  refine lv_lstore (lv' := [(5, .long (0 : Int64)), (0, .ref q_t), (1, .ref q_a1), (2, .int a2), (3, .int a3), (4, .int a4)]) hx hb dX0_sumWithRow_1 hl (by decide) rfl (fun ls hl => ?_)
  refine lv_iconst (v := 0) hx hb dX0_sumWithRow_3 (by decide) ?_
  refine lv_istore (lv' := [(7, .int (0 : Int32)), (5, .long (0 : Int64)), (0, .ref q_t), (1, .ref q_a1), (2, .int a2), (3, .int a3), (4, .int a4)]) hx hb dX0_sumWithRow_4 hl (by decide) rfl (fun ls hl => ?_)
  obtain ⟨x5_24, hz_26, h⟩ := bd_ok h
  refine l_X0_sumWithRow_1 ⟨hx, hb, hml, hown, hts⟩ G hK hA q_t q_t_sums q_a1 q_a1_cells a2 a3 a4 t_sums a1_size a1_cells x5_24 ?_ FU (0 : Int64) (0 : Int32) hz_26 H locs ls hP hD hS (lv_sub hl [2, 3, 4, 5, 6, 1, 0] rfl)
  intro H locs ls hP hD hS hl
  refine lv_lload hx hb dX0_sumWithRow_97 (lv_at hl 0 rfl) ?_
  obtain rfl := sm1 h
  exact KR H locs ls 99 dX0_sumWithRow_99 hP hD hS
set_option maxHeartbeats 4000000 in
set_option maxRecDepth 100000 in
theorem c_X0_sumWithRow (l : Launch) (G : GT) (q_t q_t_sums q_a1 q_a1_cells : Nat) (sz : Nat) (t_sums : Nat → Int64) (a1_size : Int32) (a1_cells : Nat → Int32) (a2 : Int32) (a3 : Int32) (a4 : Int32) (r : Int64) (h : f_X0_sumWithRow t_sums a1_size a1_cells a2 a3 a4 = some r) : Met l yX0_sumWithRow wsX0_sumWithRow ({ frames := 2, cells := 0, slots := 0, locals := 43 } : Room) (va_Pc [.ref q_t, .ref q_a1, .int a2, .int a3, .int a4] (pcW G [(q_t, .inr (0, [.ref q_t_sums])), (q_t_sums, .inl (G.2 1, 128, .inr (.inl t_sums))), (q_a1, .inr (3, [.ref q_a1_cells, .int a1_size])), (q_a1_cells, .inl (G.2 0, 49, .inl a1_cells))] sz)) (va_Ql (fun r9 (_ : Unit) => r9 = r) (fun _ t => atW G (va_A [(q_t, .inr (0, [.ref q_t_sums])), (q_t_sums, .inl (G.2 1, 128, .inr (.inl t_sums))), (q_a1, .inr (3, [.ref q_a1_cells, .int a1_size])), (q_a1_cells, .inl (G.2 0, 49, .inl a1_cells))] sz) [(q_t, .inr (0, [.ref q_t_sums])), (q_t_sums, .inl (G.2 1, 128, .inr (.inl t_sums))), (q_a1, .inr (3, [.ref q_a1_cells, .int a1_size])), (q_a1_cells, .inl (G.2 0, 49, .inl a1_cells))] t) (va_A [(q_t, .inr (0, [.ref q_t_sums])), (q_t_sums, .inl (G.2 1, 128, .inr (.inl t_sums))), (q_a1, .inr (3, [.ref q_a1_cells, .int a1_size])), (q_a1_cells, .inl (G.2 0, 49, .inl a1_cells))] sz)) 0 0 (va_A [(q_t, .inr (0, [.ref q_t_sums])), (q_t_sums, .inl (G.2 1, 128, .inr (.inl t_sums))), (q_a1, .inr (3, [.ref q_a1_cells, .int a1_size])), (q_a1_cells, .inl (G.2 0, 49, .inl a1_cells))] sz) := by
  refine Met.ofW (cc := cX0_sumWithRow) (maxL := 12) (ret := (some .long)) (by decide) rfl ?_
  intro p e s m args below meth c s₁ B hml hv
  obtain ⟨rfl, hsz, hP, hK, hD0⟩ := hv
  subst hsz
  have hD := hD0.self (sz := s.heap.size)
  generalize hAe : va_A [(q_t, .inr (0, [.ref q_t_sums])), (q_t_sums, .inl (G.2 1, 128, .inr (.inl t_sums))), (q_a1, .inr (3, [.ref q_a1_cells, .int a1_size])), (q_a1_cells, .inl (G.2 0, 49, .inl a1_cells))] s.heap.size = A at hD ⊢
  have hA : ∀ q : Nat, s.heap.size ≤ q → A q := fun q h => by rw [← hAe]; exact Or.inr h
  have hl := lv_entry ([.ref q_t, .ref q_a1, .int a2, .int a3, .int a4]) (n := 12) (Nat.le_of_ble_eq_true rfl)
  rw [lg_entry_eq]
  refine k_X0_sumWithRow ⟨B.exec, B.bytes, hml, findClass_of_methodNamed B.named, atoms_spec (ws := wsX0_sumWithRow) B.pre⟩ G hK hA q_t q_t_sums q_a1 q_a1_cells _ _ _ _ _ _ _ h ?_ _ _ _ hP hD va_S.rf hl
  intro H locs ls pc hd hP hD hS
  exact W.lret B.exec B.bytes B.returns (fun t ht hW => ⟨⟨r, (), rfl, rfl, by rw [ht]; exact hP, hD⟩, hS.F ht⟩) hS.2.2 hd B.notSynchronized
def f_X0_takeRow_L1 (x2 : Int32) (x3 : Int32) (a1_size : Int32) (a1_cells : Nat → Int32) : (Int32 × (Nat → Int64)) → Option ((Int32 × (Nat → Int64)) ⊕ (Nat → Int64))
  | (x4, t_sums) =>
    if x4 < 0 then
      some (.inr t_sums)
    else
      (f_X0_sumWithRow t_sums a1_size a1_cells x2 x4 x3).bind (fun r_4 =>
      (f_X0_put t_sums x4 r_4).bind (fun t_sums_6 =>
      pl ((x4 + (-1 : Int32)) : Int32) (fun x4_8 =>
      some (.inl (x4_8, t_sums_6)))))
def f_X0_takeRow (t_sums : Nat → Int64) (a1_size : Int32) (a1_cells : Nat → Int32) (a2 : Int32) (a3 : Int32) : Option (Nat → Int64) :=
  (f_X4_allLines a1_size).bind (fun r_1 =>
  (lpN (f_X0_takeRow_L1 a2 a3 a1_size a1_cells) FU (r_1, t_sums)).bind (fun t_sums_9 =>
  some t_sums_9))
set_option maxHeartbeats 4000000 in
set_option maxRecDepth 100000 in
theorem l_X0_takeRow_1 {p : Program} {l : Launch} {e : Env} {s : State} {m : MethodId} {args : Array Value} {below : List Frame} {meth : Method} {c : Code} {Q : State → Prop} {A0 : Nat → Prop} {H0 : Heap} (C : CallFix p m c cX0_takeRow 5 s args wsX0_takeRow RX0) (G : GT) (hK : gK G s) (hA : ∀ q : Nat, H0.size ≤ q → A0 q) (q_t q_t_sums q_a1 q_a1_cells : Nat) (x2 : Int32) (x3 : Int32) (a1_size : Int32) (a1_cells : Nat → Int32) (E_t_sums : Nat → Int64) (K : ∀ (H : Heap) (locs : List Loc) (ls : Array Slot), va_P G.1 vwCl [(q_t, .inr (0, [.ref q_t_sums])), (q_t_sums, .inl (G.2 1, 128, .inr (.inl E_t_sums))), (q_a1, .inr (3, [.ref q_a1_cells, .int a1_size])), (q_a1_cells, .inl (G.2 0, 49, .inl a1_cells))] H → va_D A0 [(q_t, .inr (0, [.ref q_t_sums])), (q_t_sums, .inl (G.2 1, 128, .inr (.inl E_t_sums))), (q_a1, .inr (3, [.ref q_a1_cells, .int a1_size])), (q_a1_cells, .inl (G.2 0, 49, .inl a1_cells))] → va_S A0 H0 H locs → lv_has ls 5 [] → W p l e ({ frames := 3, cells := 0, slots := 0, locals := 74 } : Room) s m args below meth c H locs 0 0 Q (F0 m 32 ls [])) : ∀ (n : Nat) (x4 : Int32) (t_sums : Nat → Int64), lpN (f_X0_takeRow_L1 x2 x3 a1_size a1_cells) n (x4, t_sums) = some E_t_sums → ∀ (H : Heap) (locs : List Loc) (ls : Array Slot), va_P G.1 vwCl [(q_t, .inr (0, [.ref q_t_sums])), (q_t_sums, .inl (G.2 1, 128, .inr (.inl t_sums))), (q_a1, .inr (3, [.ref q_a1_cells, .int a1_size])), (q_a1_cells, .inl (G.2 0, 49, .inl a1_cells))] H → va_D A0 [(q_t, .inr (0, [.ref q_t_sums])), (q_t_sums, .inl (G.2 1, 128, .inr (.inl t_sums))), (q_a1, .inr (3, [.ref q_a1_cells, .int a1_size])), (q_a1_cells, .inl (G.2 0, 49, .inl a1_cells))] → va_S A0 H0 H locs → lv_has ls 5 [(0, .ref q_t), (1, .ref q_a1), (2, .int x2), (3, .int x3), (4, .int x4)] → W p l e ({ frames := 3, cells := 0, slots := 0, locals := 74 } : Room) s m args below meth c H locs 0 0 Q (F0 m 6 ls []) := by
  obtain ⟨hx, hb, hml, hown, hts⟩ := C
  intro n
  induction n with
  | zero => intro x4 t_sums h; exact absurd h (fun h => lp_0 h)
  | succ n ih =>
    intro x4 t_sums h H locs ls hP hD hS hl
    obtain ⟨y, h, hk⟩ := lp_s h
    rw [f_X0_takeRow_L1] at h
    refine lv_iload hx hb dX0_takeRow_6 (lv_at hl 4 rfl) ?_
    refine lv_if_lt (tgt := 32) hx hb dX0_takeRow_8 (by decide) (fun c_3 => ?_) (fun c_3 => ?_)
    · replace h := it_t h c_3
      obtain rfl := sm1 h
      obtain rfl := sm1 hk
      exact K H locs ls hP hD hS (lv_sub hl [] rfl)
    · replace h := it_f h c_3
      refine lv_aload_n hx hb dX0_takeRow_11 rfl (lv_at hl 0 rfl) ?_
      refine lv_iload hx hb dX0_takeRow_12 (lv_at hl 4 rfl) ?_
      refine lv_aload_n hx hb dX0_takeRow_14 rfl (lv_at hl 0 rfl) ?_
      refine lv_aload_n hx hb dX0_takeRow_15 rfl (lv_at hl 1 rfl) ?_
      refine lv_iload_n hx hb dX0_takeRow_16 rfl (lv_at hl 2 rfl) ?_
      refine lv_iload hx hb dX0_takeRow_17 (lv_at hl 4 rfl) ?_
      refine lv_iload_n hx hb dX0_takeRow_19 rfl (lv_at hl 3 rfl) ?_
      obtain ⟨r_4, hf_5, h⟩ := bd_ok h
      refine ck_Vl (rest := [.int x4, .ref q_t]) (wn := [(q_t, .inr (0, [.ref q_t_sums])), (q_t_sums, .inl (G.2 1, 128, .inr (.inl t_sums))), (q_a1, .inr (3, [.ref q_a1_cells, .int a1_size])), (q_a1_cells, .inl (G.2 0, 49, .inl a1_cells))]) ⟨hx, hb, hml, hown, hts⟩ hK hP hD hS hA [0, 1, 2, 3] [] [0, 1, 2, 3] (c_X0_sumWithRow l G q_t q_t_sums q_a1 q_a1_cells _ t_sums a1_size a1_cells x2 x4 x3 _ hf_5) (cwV 4 hts gX0_takeRow_X0_sumWithRow rfl rfl rfl (by decide +kernel) ⟨Nat.le_of_ble_eq_true rfl, Nat.le_of_ble_eq_true rfl⟩) rfl rfl rfl rfl rfl rfl (by decide) rfl rfl rfl hl.1 rfl (Nat.le_of_ble_eq_true rfl) dX0_takeRow_20 ⟨Nat.zero_le _, Nat.zero_le _⟩ (fun H locs hP hD hS => ?_)
      obtain ⟨t_sums_6, hf_7, h⟩ := bd_ok h
      refine ck_Vv (rest := []) (wn := [(q_t, .inr (0, [.ref q_t_sums])), (q_t_sums, .inl (G.2 1, 128, .inr (.inl t_sums_6))), (q_a1, .inr (3, [.ref q_a1_cells, .int a1_size])), (q_a1_cells, .inl (G.2 0, 49, .inl a1_cells))]) ⟨hx, hb, hml, hown, hts⟩ hK hP hD hS hA [0, 1] [2, 3] [2, 3, 0, 1] (c_X0_put l G q_t q_t_sums _ t_sums x4 r_4 _ hf_7) (cwV 2 hts gX0_takeRow_X0_put rfl rfl rfl (by decide +kernel) ⟨Nat.le_of_ble_eq_true rfl, Nat.le_of_ble_eq_true rfl⟩) rfl rfl rfl rfl rfl rfl (by decide) rfl rfl rfl hl.1 rfl (Nat.le_of_ble_eq_true rfl) dX0_takeRow_23 ⟨Nat.zero_le _, Nat.zero_le _⟩ (fun H locs hP hD hS => ?_)
      obtain ⟨x4_8, ex4_8, h⟩ := pl_ok h
      refine lv_iinc (v := x4_8) (lv' := [(4, .int x4_8), (0, .ref q_t), (1, .ref q_a1), (2, .int x2), (3, .int x3)]) hx hb dX0_takeRow_26 hl (k := 4) rfl (by rw [ex4_8]; rfl) (by decide) rfl (fun ls hl => ?_)
      refine lv_goto (tgt := 6) hx hb dX0_takeRow_29 (by decide) ?_
      obtain rfl := sm1 h
      exact ih x4_8 t_sums_6 hk H locs ls hP hD hS (lv_sub hl [1, 2, 3, 4, 0] rfl)
set_option maxHeartbeats 4000000 in
set_option maxRecDepth 100000 in
theorem k_X0_takeRow {p : Program} {l : Launch} {e : Env} {s : State} {m : MethodId} {args : Array Value} {below : List Frame} {meth : Method} {c : Code} {Q : State → Prop} {A0 : Nat → Prop} {H0 : Heap} (C : CallFix p m c cX0_takeRow 5 s args wsX0_takeRow RX0) (G : GT) (hK : gK G s) (hA : ∀ q : Nat, H0.size ≤ q → A0 q) (q_t q_t_sums q_a1 q_a1_cells : Nat) (t_sums : Nat → Int64) (a1_size : Int32) (a1_cells : Nat → Int32) (a2 : Int32) (a3 : Int32) (o_t_sums : Nat → Int64) (h : f_X0_takeRow t_sums a1_size a1_cells a2 a3 = some o_t_sums) (KR : ∀ (H : Heap) (locs : List Loc) (ls : Array Slot) (pc : Nat), decode cX0_takeRow pc = .ok (.return_, 1) → va_P G.1 vwCl [(q_t, .inr (0, [.ref q_t_sums])), (q_t_sums, .inl (G.2 1, 128, .inr (.inl o_t_sums))), (q_a1, .inr (3, [.ref q_a1_cells, .int a1_size])), (q_a1_cells, .inl (G.2 0, 49, .inl a1_cells))] H → va_D A0 [(q_t, .inr (0, [.ref q_t_sums])), (q_t_sums, .inl (G.2 1, 128, .inr (.inl o_t_sums))), (q_a1, .inr (3, [.ref q_a1_cells, .int a1_size])), (q_a1_cells, .inl (G.2 0, 49, .inl a1_cells))] → va_S A0 H0 H locs → W p l e ({ frames := 3, cells := 0, slots := 0, locals := 74 } : Room) s m args below meth c H locs 0 0 Q (F0 m pc ls [])) : ∀ (H : Heap) (locs : List Loc) (ls : Array Slot), va_P G.1 vwCl [(q_t, .inr (0, [.ref q_t_sums])), (q_t_sums, .inl (G.2 1, 128, .inr (.inl t_sums))), (q_a1, .inr (3, [.ref q_a1_cells, .int a1_size])), (q_a1_cells, .inl (G.2 0, 49, .inl a1_cells))] H → va_D A0 [(q_t, .inr (0, [.ref q_t_sums])), (q_t_sums, .inl (G.2 1, 128, .inr (.inl t_sums))), (q_a1, .inr (3, [.ref q_a1_cells, .int a1_size])), (q_a1_cells, .inl (G.2 0, 49, .inl a1_cells))] → va_S A0 H0 H locs → lv_has ls 5 [(0, .ref q_t), (1, .ref q_a1), (2, .int a2), (3, .int a3)] → W p l e ({ frames := 3, cells := 0, slots := 0, locals := 74 } : Room) s m args below meth c H locs 0 0 Q (F0 m 0 ls []) := by
  obtain ⟨hx, hb, hml, hown, hts⟩ := C
  intro H locs ls hP hD hS hl
  rw [f_X0_takeRow] at h
  refine lv_aload_n hx hb dX0_takeRow_0 rfl (lv_at hl 1 rfl) ?_
  obtain ⟨r_1, hf_2, h⟩ := bd_ok h
  refine ck_Vi (rest := []) (wn := [(q_t, .inr (0, [.ref q_t_sums])), (q_t_sums, .inl (G.2 1, 128, .inr (.inl t_sums))), (q_a1, .inr (3, [.ref q_a1_cells, .int a1_size])), (q_a1_cells, .inl (G.2 0, 49, .inl a1_cells))]) ⟨hx, hb, hml, hown, hts⟩ hK hP hD hS hA [2] [0, 1, 3] [0, 1, 3, 2] (c_X4_allLines l G q_a1 q_a1_cells _ a1_size _ hf_2) (cwV 0 hts gX0_takeRow_X4_allLines rfl rfl rfl (by decide +kernel) ⟨Nat.le_of_ble_eq_true rfl, Nat.le_of_ble_eq_true rfl⟩) rfl rfl rfl rfl rfl rfl (by decide) rfl rfl rfl hl.1 rfl (Nat.le_of_ble_eq_true rfl) dX0_takeRow_1 ⟨Nat.zero_le _, Nat.zero_le _⟩ (fun H locs hP hD hS => ?_)
  refine lv_istore (lv' := [(4, .int r_1), (0, .ref q_t), (1, .ref q_a1), (2, .int a2), (3, .int a3)]) hx hb dX0_takeRow_4 hl (by decide) rfl (fun ls hl => ?_)
  obtain ⟨t_sums_9, hz_11, h⟩ := bd_ok h
  refine l_X0_takeRow_1 ⟨hx, hb, hml, hown, hts⟩ G hK hA q_t q_t_sums q_a1 q_a1_cells a2 a3 a1_size a1_cells t_sums_9 ?_ FU r_1 t_sums hz_11 H locs ls hP hD hS (lv_sub hl [1, 2, 3, 4, 0] rfl)
  intro H locs ls hP hD hS hl
  obtain rfl := sm1 h
  exact KR H locs ls 32 dX0_takeRow_32 hP hD hS
set_option maxHeartbeats 4000000 in
set_option maxRecDepth 100000 in
theorem c_X0_takeRow (l : Launch) (G : GT) (q_t q_t_sums q_a1 q_a1_cells : Nat) (sz : Nat) (t_sums : Nat → Int64) (a1_size : Int32) (a1_cells : Nat → Int32) (a2 : Int32) (a3 : Int32) (o_t_sums : Nat → Int64) (h : f_X0_takeRow t_sums a1_size a1_cells a2 a3 = some o_t_sums) : Met l yX0_takeRow wsX0_takeRow ({ frames := 3, cells := 0, slots := 0, locals := 74 } : Room) (va_Pc [.ref q_t, .ref q_a1, .int a2, .int a3] (pcW G [(q_t, .inr (0, [.ref q_t_sums])), (q_t_sums, .inl (G.2 1, 128, .inr (.inl t_sums))), (q_a1, .inr (3, [.ref q_a1_cells, .int a1_size])), (q_a1_cells, .inl (G.2 0, 49, .inl a1_cells))] sz)) (va_Qv (fun (_ : Unit) => True) (fun _ t => atW G (va_A [(q_t, .inr (0, [.ref q_t_sums])), (q_t_sums, .inl (G.2 1, 128, .inr (.inl t_sums))), (q_a1, .inr (3, [.ref q_a1_cells, .int a1_size])), (q_a1_cells, .inl (G.2 0, 49, .inl a1_cells))] sz) [(q_t, .inr (0, [.ref q_t_sums])), (q_t_sums, .inl (G.2 1, 128, .inr (.inl o_t_sums))), (q_a1, .inr (3, [.ref q_a1_cells, .int a1_size])), (q_a1_cells, .inl (G.2 0, 49, .inl a1_cells))] t) (va_A [(q_t, .inr (0, [.ref q_t_sums])), (q_t_sums, .inl (G.2 1, 128, .inr (.inl t_sums))), (q_a1, .inr (3, [.ref q_a1_cells, .int a1_size])), (q_a1_cells, .inl (G.2 0, 49, .inl a1_cells))] sz)) 0 0 (va_A [(q_t, .inr (0, [.ref q_t_sums])), (q_t_sums, .inl (G.2 1, 128, .inr (.inl t_sums))), (q_a1, .inr (3, [.ref q_a1_cells, .int a1_size])), (q_a1_cells, .inl (G.2 0, 49, .inl a1_cells))] sz) := by
  refine Met.ofW (cc := cX0_takeRow) (maxL := 5) (ret := none) (by decide) rfl ?_
  intro p e s m args below meth c s₁ B hml hv
  obtain ⟨rfl, hsz, hP, hK, hD0⟩ := hv
  subst hsz
  have hD := hD0.self (sz := s.heap.size)
  generalize hAe : va_A [(q_t, .inr (0, [.ref q_t_sums])), (q_t_sums, .inl (G.2 1, 128, .inr (.inl t_sums))), (q_a1, .inr (3, [.ref q_a1_cells, .int a1_size])), (q_a1_cells, .inl (G.2 0, 49, .inl a1_cells))] s.heap.size = A at hD ⊢
  have hA : ∀ q : Nat, s.heap.size ≤ q → A q := fun q h => by rw [← hAe]; exact Or.inr h
  have hl := lv_entry ([.ref q_t, .ref q_a1, .int a2, .int a3]) (n := 5) (Nat.le_of_ble_eq_true rfl)
  rw [lg_entry_eq]
  refine k_X0_takeRow ⟨B.exec, B.bytes, hml, findClass_of_methodNamed B.named, atoms_spec (ws := wsX0_takeRow) B.pre⟩ G hK hA q_t q_t_sums q_a1 q_a1_cells _ _ _ _ _ _ h ?_ _ _ _ hP hD va_S.rf hl
  intro H locs ls pc hd hP hD hS
  exact W.vret B.exec B.bytes B.returns (fun t ht hW => ⟨⟨(), rfl, trivial, by rw [ht]; exact hP, hD⟩, hS.F ht⟩) hS.2.2 hd B.notSynchronized
def f_X0_takeRowOrNot_L1 (x2 : Int32) (a1_size : Int32) (a1_cells : Nat → Int32) : (Int32 × (Nat → Int64)) → Option ((Int32 × (Nat → Int64)) ⊕ (Nat → Int64))
  | (x3, t_sums) =>
    if x3 < 0 then
      some (.inr t_sums)
    else
      (f_X0_of t_sums x3).bind (fun r_4 =>
      (f_X0_sumWithRow t_sums a1_size a1_cells x2 x3 (0 : Int32)).bind (fun r_6 =>
      (f_X0_put t_sums x3 (r_4 + r_6)).bind (fun t_sums_8 =>
      pl ((x3 + (-1 : Int32)) : Int32) (fun x3_10 =>
      some (.inl (x3_10, t_sums_8))))))
def f_X0_takeRowOrNot (t_sums : Nat → Int64) (a1_size : Int32) (a1_cells : Nat → Int32) (a2 : Int32) : Option (Nat → Int64) :=
  (f_X4_allLines a1_size).bind (fun r_1 =>
  (lpN (f_X0_takeRowOrNot_L1 a2 a1_size a1_cells) FU (r_1, t_sums)).bind (fun t_sums_11 =>
  some t_sums_11))
set_option maxHeartbeats 4000000 in
set_option maxRecDepth 100000 in
theorem l_X0_takeRowOrNot_1 {p : Program} {l : Launch} {e : Env} {s : State} {m : MethodId} {args : Array Value} {below : List Frame} {meth : Method} {c : Code} {Q : State → Prop} {A0 : Nat → Prop} {H0 : Heap} (C : CallFix p m c cX0_takeRowOrNot 4 s args wsX0_takeRowOrNot RX0) (G : GT) (hK : gK G s) (hA : ∀ q : Nat, H0.size ≤ q → A0 q) (q_t q_t_sums q_a1 q_a1_cells : Nat) (x2 : Int32) (a1_size : Int32) (a1_cells : Nat → Int32) (E_t_sums : Nat → Int64) (K : ∀ (H : Heap) (locs : List Loc) (ls : Array Slot), va_P G.1 vwCl [(q_t, .inr (0, [.ref q_t_sums])), (q_t_sums, .inl (G.2 1, 128, .inr (.inl E_t_sums))), (q_a1, .inr (3, [.ref q_a1_cells, .int a1_size])), (q_a1_cells, .inl (G.2 0, 49, .inl a1_cells))] H → va_D A0 [(q_t, .inr (0, [.ref q_t_sums])), (q_t_sums, .inl (G.2 1, 128, .inr (.inl E_t_sums))), (q_a1, .inr (3, [.ref q_a1_cells, .int a1_size])), (q_a1_cells, .inl (G.2 0, 49, .inl a1_cells))] → va_S A0 H0 H locs → lv_has ls 4 [] → W p l e ({ frames := 3, cells := 0, slots := 0, locals := 74 } : Room) s m args below meth c H locs 0 0 Q (F0 m 34 ls [])) : ∀ (n : Nat) (x3 : Int32) (t_sums : Nat → Int64), lpN (f_X0_takeRowOrNot_L1 x2 a1_size a1_cells) n (x3, t_sums) = some E_t_sums → ∀ (H : Heap) (locs : List Loc) (ls : Array Slot), va_P G.1 vwCl [(q_t, .inr (0, [.ref q_t_sums])), (q_t_sums, .inl (G.2 1, 128, .inr (.inl t_sums))), (q_a1, .inr (3, [.ref q_a1_cells, .int a1_size])), (q_a1_cells, .inl (G.2 0, 49, .inl a1_cells))] H → va_D A0 [(q_t, .inr (0, [.ref q_t_sums])), (q_t_sums, .inl (G.2 1, 128, .inr (.inl t_sums))), (q_a1, .inr (3, [.ref q_a1_cells, .int a1_size])), (q_a1_cells, .inl (G.2 0, 49, .inl a1_cells))] → va_S A0 H0 H locs → lv_has ls 4 [(0, .ref q_t), (1, .ref q_a1), (2, .int x2), (3, .int x3)] → W p l e ({ frames := 3, cells := 0, slots := 0, locals := 74 } : Room) s m args below meth c H locs 0 0 Q (F0 m 5 ls []) := by
  obtain ⟨hx, hb, hml, hown, hts⟩ := C
  intro n
  induction n with
  | zero => intro x3 t_sums h; exact absurd h (fun h => lp_0 h)
  | succ n ih =>
    intro x3 t_sums h H locs ls hP hD hS hl
    obtain ⟨y, h, hk⟩ := lp_s h
    rw [f_X0_takeRowOrNot_L1] at h
    refine lv_iload_n hx hb dX0_takeRowOrNot_5 rfl (lv_at hl 3 rfl) ?_
    refine lv_if_lt (tgt := 34) hx hb dX0_takeRowOrNot_6 (by decide) (fun c_3 => ?_) (fun c_3 => ?_)
    · replace h := it_t h c_3
      obtain rfl := sm1 h
      obtain rfl := sm1 hk
      exact K H locs ls hP hD hS (lv_sub hl [] rfl)
    · replace h := it_f h c_3
      refine lv_aload_n hx hb dX0_takeRowOrNot_9 rfl (lv_at hl 0 rfl) ?_
      refine lv_iload_n hx hb dX0_takeRowOrNot_10 rfl (lv_at hl 3 rfl) ?_
      refine lv_aload_n hx hb dX0_takeRowOrNot_11 rfl (lv_at hl 0 rfl) ?_
      refine lv_iload_n hx hb dX0_takeRowOrNot_12 rfl (lv_at hl 3 rfl) ?_
      obtain ⟨r_4, hf_5, h⟩ := bd_ok h
      refine ck_Vl (rest := [.int x3, .ref q_t]) (wn := [(q_t, .inr (0, [.ref q_t_sums])), (q_t_sums, .inl (G.2 1, 128, .inr (.inl t_sums))), (q_a1, .inr (3, [.ref q_a1_cells, .int a1_size])), (q_a1_cells, .inl (G.2 0, 49, .inl a1_cells))]) ⟨hx, hb, hml, hown, hts⟩ hK hP hD hS hA [0, 1] [2, 3] [2, 3, 0, 1] (c_X0_of l G q_t q_t_sums _ t_sums x3 _ hf_5) (cwV 1 hts gX0_takeRowOrNot_X0_of rfl rfl rfl (by decide +kernel) ⟨Nat.le_of_ble_eq_true rfl, Nat.le_of_ble_eq_true rfl⟩) rfl rfl rfl rfl rfl rfl (by decide) rfl rfl rfl hl.1 rfl (Nat.le_of_ble_eq_true rfl) dX0_takeRowOrNot_13 ⟨Nat.zero_le _, Nat.zero_le _⟩ (fun H locs hP hD hS => ?_)
      refine lv_aload_n hx hb dX0_takeRowOrNot_16 rfl (lv_at hl 0 rfl) ?_
      refine lv_aload_n hx hb dX0_takeRowOrNot_17 rfl (lv_at hl 1 rfl) ?_
      refine lv_iload_n hx hb dX0_takeRowOrNot_18 rfl (lv_at hl 2 rfl) ?_
      refine lv_iload_n hx hb dX0_takeRowOrNot_19 rfl (lv_at hl 3 rfl) ?_
      refine lv_iconst (v := 0) hx hb dX0_takeRowOrNot_20 (by decide) ?_
      obtain ⟨r_6, hf_7, h⟩ := bd_ok h
      refine ck_Vl (rest := [.long r_4, .int x3, .ref q_t]) (wn := [(q_t, .inr (0, [.ref q_t_sums])), (q_t_sums, .inl (G.2 1, 128, .inr (.inl t_sums))), (q_a1, .inr (3, [.ref q_a1_cells, .int a1_size])), (q_a1_cells, .inl (G.2 0, 49, .inl a1_cells))]) ⟨hx, hb, hml, hown, hts⟩ hK hP hD hS hA [0, 1, 2, 3] [] [0, 1, 2, 3] (c_X0_sumWithRow l G q_t q_t_sums q_a1 q_a1_cells _ t_sums a1_size a1_cells x2 x3 (0 : Int32) _ hf_7) (cwV 4 hts gX0_takeRowOrNot_X0_sumWithRow rfl rfl rfl (by decide +kernel) ⟨Nat.le_of_ble_eq_true rfl, Nat.le_of_ble_eq_true rfl⟩) rfl rfl rfl rfl rfl rfl (by decide) rfl rfl rfl hl.1 rfl (Nat.le_of_ble_eq_true rfl) dX0_takeRowOrNot_21 ⟨Nat.zero_le _, Nat.zero_le _⟩ (fun H locs hP hD hS => ?_)
      refine lv_ladd hx hb dX0_takeRowOrNot_24 ?_
      obtain ⟨t_sums_8, hf_9, h⟩ := bd_ok h
      refine ck_Vv (rest := []) (wn := [(q_t, .inr (0, [.ref q_t_sums])), (q_t_sums, .inl (G.2 1, 128, .inr (.inl t_sums_8))), (q_a1, .inr (3, [.ref q_a1_cells, .int a1_size])), (q_a1_cells, .inl (G.2 0, 49, .inl a1_cells))]) ⟨hx, hb, hml, hown, hts⟩ hK hP hD hS hA [0, 1] [2, 3] [2, 3, 0, 1] (c_X0_put l G q_t q_t_sums _ t_sums x3 (r_4 + r_6) _ hf_9) (cwV 2 hts gX0_takeRowOrNot_X0_put rfl rfl rfl (by decide +kernel) ⟨Nat.le_of_ble_eq_true rfl, Nat.le_of_ble_eq_true rfl⟩) rfl rfl rfl rfl rfl rfl (by decide) rfl rfl rfl hl.1 rfl (Nat.le_of_ble_eq_true rfl) dX0_takeRowOrNot_25 ⟨Nat.zero_le _, Nat.zero_le _⟩ (fun H locs hP hD hS => ?_)
      obtain ⟨x3_10, ex3_10, h⟩ := pl_ok h
      refine lv_iinc (v := x3_10) (lv' := [(3, .int x3_10), (0, .ref q_t), (1, .ref q_a1), (2, .int x2)]) hx hb dX0_takeRowOrNot_28 hl (k := 3) rfl (by rw [ex3_10]; rfl) (by decide) rfl (fun ls hl => ?_)
      refine lv_goto (tgt := 5) hx hb dX0_takeRowOrNot_31 (by decide) ?_
      obtain rfl := sm1 h
      exact ih x3_10 t_sums_8 hk H locs ls hP hD hS (lv_sub hl [1, 2, 3, 0] rfl)
set_option maxHeartbeats 4000000 in
set_option maxRecDepth 100000 in
theorem k_X0_takeRowOrNot {p : Program} {l : Launch} {e : Env} {s : State} {m : MethodId} {args : Array Value} {below : List Frame} {meth : Method} {c : Code} {Q : State → Prop} {A0 : Nat → Prop} {H0 : Heap} (C : CallFix p m c cX0_takeRowOrNot 4 s args wsX0_takeRowOrNot RX0) (G : GT) (hK : gK G s) (hA : ∀ q : Nat, H0.size ≤ q → A0 q) (q_t q_t_sums q_a1 q_a1_cells : Nat) (t_sums : Nat → Int64) (a1_size : Int32) (a1_cells : Nat → Int32) (a2 : Int32) (o_t_sums : Nat → Int64) (h : f_X0_takeRowOrNot t_sums a1_size a1_cells a2 = some o_t_sums) (KR : ∀ (H : Heap) (locs : List Loc) (ls : Array Slot) (pc : Nat), decode cX0_takeRowOrNot pc = .ok (.return_, 1) → va_P G.1 vwCl [(q_t, .inr (0, [.ref q_t_sums])), (q_t_sums, .inl (G.2 1, 128, .inr (.inl o_t_sums))), (q_a1, .inr (3, [.ref q_a1_cells, .int a1_size])), (q_a1_cells, .inl (G.2 0, 49, .inl a1_cells))] H → va_D A0 [(q_t, .inr (0, [.ref q_t_sums])), (q_t_sums, .inl (G.2 1, 128, .inr (.inl o_t_sums))), (q_a1, .inr (3, [.ref q_a1_cells, .int a1_size])), (q_a1_cells, .inl (G.2 0, 49, .inl a1_cells))] → va_S A0 H0 H locs → W p l e ({ frames := 3, cells := 0, slots := 0, locals := 74 } : Room) s m args below meth c H locs 0 0 Q (F0 m pc ls [])) : ∀ (H : Heap) (locs : List Loc) (ls : Array Slot), va_P G.1 vwCl [(q_t, .inr (0, [.ref q_t_sums])), (q_t_sums, .inl (G.2 1, 128, .inr (.inl t_sums))), (q_a1, .inr (3, [.ref q_a1_cells, .int a1_size])), (q_a1_cells, .inl (G.2 0, 49, .inl a1_cells))] H → va_D A0 [(q_t, .inr (0, [.ref q_t_sums])), (q_t_sums, .inl (G.2 1, 128, .inr (.inl t_sums))), (q_a1, .inr (3, [.ref q_a1_cells, .int a1_size])), (q_a1_cells, .inl (G.2 0, 49, .inl a1_cells))] → va_S A0 H0 H locs → lv_has ls 4 [(0, .ref q_t), (1, .ref q_a1), (2, .int a2)] → W p l e ({ frames := 3, cells := 0, slots := 0, locals := 74 } : Room) s m args below meth c H locs 0 0 Q (F0 m 0 ls []) := by
  obtain ⟨hx, hb, hml, hown, hts⟩ := C
  intro H locs ls hP hD hS hl
  rw [f_X0_takeRowOrNot] at h
  refine lv_aload_n hx hb dX0_takeRowOrNot_0 rfl (lv_at hl 1 rfl) ?_
  obtain ⟨r_1, hf_2, h⟩ := bd_ok h
  refine ck_Vi (rest := []) (wn := [(q_t, .inr (0, [.ref q_t_sums])), (q_t_sums, .inl (G.2 1, 128, .inr (.inl t_sums))), (q_a1, .inr (3, [.ref q_a1_cells, .int a1_size])), (q_a1_cells, .inl (G.2 0, 49, .inl a1_cells))]) ⟨hx, hb, hml, hown, hts⟩ hK hP hD hS hA [2] [0, 1, 3] [0, 1, 3, 2] (c_X4_allLines l G q_a1 q_a1_cells _ a1_size _ hf_2) (cwV 0 hts gX0_takeRowOrNot_X4_allLines rfl rfl rfl (by decide +kernel) ⟨Nat.le_of_ble_eq_true rfl, Nat.le_of_ble_eq_true rfl⟩) rfl rfl rfl rfl rfl rfl (by decide) rfl rfl rfl hl.1 rfl (Nat.le_of_ble_eq_true rfl) dX0_takeRowOrNot_1 ⟨Nat.zero_le _, Nat.zero_le _⟩ (fun H locs hP hD hS => ?_)
  refine lv_istore_n (lv' := [(3, .int r_1), (0, .ref q_t), (1, .ref q_a1), (2, .int a2)]) hx hb dX0_takeRowOrNot_4 rfl hl (by decide) rfl (fun ls hl => ?_)
  obtain ⟨t_sums_11, hz_13, h⟩ := bd_ok h
  refine l_X0_takeRowOrNot_1 ⟨hx, hb, hml, hown, hts⟩ G hK hA q_t q_t_sums q_a1 q_a1_cells a2 a1_size a1_cells t_sums_11 ?_ FU r_1 t_sums hz_13 H locs ls hP hD hS (lv_sub hl [1, 2, 3, 0] rfl)
  intro H locs ls hP hD hS hl
  obtain rfl := sm1 h
  exact KR H locs ls 34 dX0_takeRowOrNot_34 hP hD hS
set_option maxHeartbeats 4000000 in
set_option maxRecDepth 100000 in
theorem c_X0_takeRowOrNot (l : Launch) (G : GT) (q_t q_t_sums q_a1 q_a1_cells : Nat) (sz : Nat) (t_sums : Nat → Int64) (a1_size : Int32) (a1_cells : Nat → Int32) (a2 : Int32) (o_t_sums : Nat → Int64) (h : f_X0_takeRowOrNot t_sums a1_size a1_cells a2 = some o_t_sums) : Met l yX0_takeRowOrNot wsX0_takeRowOrNot ({ frames := 3, cells := 0, slots := 0, locals := 74 } : Room) (va_Pc [.ref q_t, .ref q_a1, .int a2] (pcW G [(q_t, .inr (0, [.ref q_t_sums])), (q_t_sums, .inl (G.2 1, 128, .inr (.inl t_sums))), (q_a1, .inr (3, [.ref q_a1_cells, .int a1_size])), (q_a1_cells, .inl (G.2 0, 49, .inl a1_cells))] sz)) (va_Qv (fun (_ : Unit) => True) (fun _ t => atW G (va_A [(q_t, .inr (0, [.ref q_t_sums])), (q_t_sums, .inl (G.2 1, 128, .inr (.inl t_sums))), (q_a1, .inr (3, [.ref q_a1_cells, .int a1_size])), (q_a1_cells, .inl (G.2 0, 49, .inl a1_cells))] sz) [(q_t, .inr (0, [.ref q_t_sums])), (q_t_sums, .inl (G.2 1, 128, .inr (.inl o_t_sums))), (q_a1, .inr (3, [.ref q_a1_cells, .int a1_size])), (q_a1_cells, .inl (G.2 0, 49, .inl a1_cells))] t) (va_A [(q_t, .inr (0, [.ref q_t_sums])), (q_t_sums, .inl (G.2 1, 128, .inr (.inl t_sums))), (q_a1, .inr (3, [.ref q_a1_cells, .int a1_size])), (q_a1_cells, .inl (G.2 0, 49, .inl a1_cells))] sz)) 0 0 (va_A [(q_t, .inr (0, [.ref q_t_sums])), (q_t_sums, .inl (G.2 1, 128, .inr (.inl t_sums))), (q_a1, .inr (3, [.ref q_a1_cells, .int a1_size])), (q_a1_cells, .inl (G.2 0, 49, .inl a1_cells))] sz) := by
  refine Met.ofW (cc := cX0_takeRowOrNot) (maxL := 4) (ret := none) (by decide) rfl ?_
  intro p e s m args below meth c s₁ B hml hv
  obtain ⟨rfl, hsz, hP, hK, hD0⟩ := hv
  subst hsz
  have hD := hD0.self (sz := s.heap.size)
  generalize hAe : va_A [(q_t, .inr (0, [.ref q_t_sums])), (q_t_sums, .inl (G.2 1, 128, .inr (.inl t_sums))), (q_a1, .inr (3, [.ref q_a1_cells, .int a1_size])), (q_a1_cells, .inl (G.2 0, 49, .inl a1_cells))] s.heap.size = A at hD ⊢
  have hA : ∀ q : Nat, s.heap.size ≤ q → A q := fun q h => by rw [← hAe]; exact Or.inr h
  have hl := lv_entry ([.ref q_t, .ref q_a1, .int a2]) (n := 4) (Nat.le_of_ble_eq_true rfl)
  rw [lg_entry_eq]
  refine k_X0_takeRowOrNot ⟨B.exec, B.bytes, hml, findClass_of_methodNamed B.named, atoms_spec (ws := wsX0_takeRowOrNot) B.pre⟩ G hK hA q_t q_t_sums q_a1 q_a1_cells _ _ _ _ _ h ?_ _ _ _ hP hD va_S.rf hl
  intro H locs ls pc hd hP hD hS
  exact W.vret B.exec B.bytes B.returns (fun t ht hW => ⟨⟨(), rfl, trivial, by rw [ht]; exact hP, hD⟩, hS.F ht⟩) hS.2.2 hd B.notSynchronized
set_option maxRecDepth 20000 in
theorem wd_X0_sumOfSize_1 : Cond.fieldLink RX0 9 "PermanentDesk$ColumnSums" "sums" "[J" ∈ wsX0_sumOfSize := List.mem_of_getElem? (i := 1) (by decide +kernel)
set_option maxRecDepth 20000 in
theorem wi_X0_sumOfSize_X0 : ∀ w ∈ u_ws RX0 TX0 1, w ∈ wsX0_sumOfSize := by decide +kernel
def f_X0_sumOfSize_L1 (x1 : Int32) (t_sums : Nat → Int64) : (Int64 × Int32) → Option ((Int64 × Int32) ⊕ Int64)
  | (x2, x4) =>
    if (128 : Int32) ≤ x4 then
      some (.inr x2)
    else
      (f_J6_bitCount_0f7a4 x4).bind (fun r_2 =>
      if r_2 = x1 then
        gd (okI x4 128) (
        pl ((x2 + (t_sums x4.toNatClampNeg)) : Int64) (fun x2_7 =>
        pl ((x4 + (1 : Int32)) : Int32) (fun x4_8 =>
        some (.inl (x2_7, x4_8)))))
      else
        pl ((x4 + (1 : Int32)) : Int32) (fun x4_5 =>
        some (.inl (x2, x4_5))))
def f_X0_sumOfSize (t_sums : Nat → Int64) (a1 : Int32) : Option Int64 :=
  (lpN (f_X0_sumOfSize_L1 a1 t_sums) FU ((0 : Int64), (0 : Int32))).bind (fun x2_9 =>
  some x2_9)
set_option maxHeartbeats 4000000 in
set_option maxRecDepth 100000 in
theorem l_X0_sumOfSize_1 {p : Program} {l : Launch} {e : Env} {s : State} {m : MethodId} {args : Array Value} {below : List Frame} {meth : Method} {c : Code} {Q : State → Prop} {A0 : Nat → Prop} {H0 : Heap} (C : CallFix p m c cX0_sumOfSize 5 s args wsX0_sumOfSize RX0) (G : GT) (hK : gK G s) (hA : ∀ q : Nat, H0.size ≤ q → A0 q) (q_t q_t_sums : Nat) (x1 : Int32) (t_sums : Nat → Int64) (E_x2 : Int64) (K : ∀ (H : Heap) (locs : List Loc) (ls : Array Slot), va_P G.1 vwCl [(q_t, .inr (0, [.ref q_t_sums])), (q_t_sums, .inl (G.2 1, 128, .inr (.inl t_sums)))] H → va_D A0 [(q_t, .inr (0, [.ref q_t_sums])), (q_t_sums, .inl (G.2 1, 128, .inr (.inl t_sums)))] → va_S A0 H0 H locs → lv_has ls 5 [(2, .long E_x2)] → W p l e ({ frames := 1, cells := 0, slots := 0, locals := 20 } : Room) s m args below meth c H locs 0 0 Q (F0 m 38 ls [])) : ∀ (n : Nat) (x2 : Int64) (x4 : Int32), lpN (f_X0_sumOfSize_L1 x1 t_sums) n (x2, x4) = some E_x2 → ∀ (H : Heap) (locs : List Loc) (ls : Array Slot), va_P G.1 vwCl [(q_t, .inr (0, [.ref q_t_sums])), (q_t_sums, .inl (G.2 1, 128, .inr (.inl t_sums)))] H → va_D A0 [(q_t, .inr (0, [.ref q_t_sums])), (q_t_sums, .inl (G.2 1, 128, .inr (.inl t_sums)))] → va_S A0 H0 H locs → lv_has ls 5 [(0, .ref q_t), (1, .int x1), (2, .long x2), (4, .int x4)] → W p l e ({ frames := 1, cells := 0, slots := 0, locals := 20 } : Room) s m args below meth c H locs 0 0 Q (F0 m 5 ls []) := by
  obtain ⟨hx, hb, hml, hown, hts⟩ := C
  intro n
  induction n with
  | zero => intro x2 x4 h; exact absurd h (fun h => lp_0 h)
  | succ n ih =>
    intro x2 x4 h H locs ls hP hD hS hl
    obtain ⟨y, h, hk⟩ := lp_s h
    rw [f_X0_sumOfSize_L1] at h
    refine lv_iload hx hb dX0_sumOfSize_5 (lv_at hl 3 rfl) ?_
    refine lv_sipush (v := 128) hx hb dX0_sumOfSize_7 (by decide) ?_
    refine lv_icmp_ge (tgt := 38) hx hb dX0_sumOfSize_10 (by decide) (fun c_1 => ?_) (fun c_1 => ?_)
    · replace h := it_t h c_1
      obtain rfl := sm1 h
      obtain rfl := sm1 hk
      exact K H locs ls hP hD hS (lv_sub hl [2] rfl)
    · replace h := it_f h c_1
      refine lv_iload hx hb dX0_sumOfSize_13 (lv_at hl 3 rfl) ?_
      obtain ⟨r_2, hf_3, h⟩ := bd_ok h
      refine ck_Si (rest := []) (wn := [(q_t, .inr (0, [.ref q_t_sums])), (q_t_sums, .inl (G.2 1, 128, .inr (.inl t_sums)))]) ⟨hx, hb, hml, hown, hts⟩ hK hP hD hS hA [] [0, 1] [0, 1] (c_J6_bitCount_0f7a4 l G _ x4 _ hf_3) (va_cwS 1 hts gX0_sumOfSize_J6_bitCount_0f7a4 rfl rfl rfl (by decide +kernel) ⟨Nat.le_of_ble_eq_true rfl, Nat.le_of_ble_eq_true rfl⟩) rfl rfl rfl rfl (by decide) rfl rfl rfl hl.1 rfl (Nat.le_of_ble_eq_true rfl) dX0_sumOfSize_15 ⟨Nat.zero_le _, Nat.zero_le _⟩ (fun H locs hP hD hS => ?_)
      refine lv_iload_n hx hb dX0_sumOfSize_18 rfl (lv_at hl 1 rfl) ?_
      refine lv_icmp_ne (tgt := 32) hx hb dX0_sumOfSize_19 (by decide) (fun c_4 => ?_) (fun c_4 => ?_)
      · replace h := it_f h c_4
        obtain ⟨x4_5, ex4_5, h⟩ := pl_ok h
        refine lv_iinc (v := x4_5) (lv' := [(4, .int x4_5), (0, .ref q_t), (1, .int x1), (2, .long x2)]) hx hb dX0_sumOfSize_32 hl (k := 3) rfl (by rw [ex4_5]; rfl) (by decide) rfl (fun ls hl => ?_)
        refine lv_goto (tgt := 5) hx hb dX0_sumOfSize_35 (by decide) ?_
        obtain rfl := sm1 h
        exact ih x2 x4_5 hk H locs ls hP hD hS (lv_sub hl [1, 2, 3, 0] rfl)
      · replace h := it_t h c_4
        refine lv_lload_n hx hb dX0_sumOfSize_22 rfl (lv_at hl 2 rfl) ?_
        refine lv_aload_n hx hb dX0_sumOfSize_23 rfl (lv_at hl 0 rfl) ?_
        refine va_get (D := G.1) (ci := 0) (v := .ref q_t_sums) (C := RX0) (T := TX0) (N := 1) hx hb hts wi_X0_sumOfSize_X0 hown hK hP 0 rfl rfl 0 (by decide) (hts _ wd_X0_sumOfSize_1) (fun _ h9 => h9) rfl dX0_sumOfSize_24 ?_
        refine lv_iload hx hb dX0_sumOfSize_27 (lv_at hl 3 rfl) ?_
        obtain ⟨g_6, h⟩ := gd_ok h
        refine va_lald (D := G.1) hx hb hK hP 1 1 rfl rfl g_6 dX0_sumOfSize_29 ?_
        refine lv_ladd hx hb dX0_sumOfSize_30 ?_
        refine lv_topl (fun x2_7 ex2_7 => ?_)
        replace h := pl_v h ex2_7
        refine lv_lstore_n (lv' := [(2, .long x2_7), (0, .ref q_t), (1, .int x1), (4, .int x4)]) hx hb dX0_sumOfSize_31 rfl hl (by decide) rfl (fun ls hl => ?_)
        obtain ⟨x4_8, ex4_8, h⟩ := pl_ok h
        refine lv_iinc (v := x4_8) (lv' := [(4, .int x4_8), (2, .long x2_7), (0, .ref q_t), (1, .int x1)]) hx hb dX0_sumOfSize_32 hl (k := 3) rfl (by rw [ex4_8]; rfl) (by decide) rfl (fun ls hl => ?_)
        refine lv_goto (tgt := 5) hx hb dX0_sumOfSize_35 (by decide) ?_
        obtain rfl := sm1 h
        exact ih x2_7 x4_8 hk H locs ls hP hD hS (lv_sub hl [2, 3, 1, 0] rfl)
set_option maxHeartbeats 4000000 in
set_option maxRecDepth 100000 in
theorem k_X0_sumOfSize {p : Program} {l : Launch} {e : Env} {s : State} {m : MethodId} {args : Array Value} {below : List Frame} {meth : Method} {c : Code} {Q : State → Prop} {A0 : Nat → Prop} {H0 : Heap} (C : CallFix p m c cX0_sumOfSize 5 s args wsX0_sumOfSize RX0) (G : GT) (hK : gK G s) (hA : ∀ q : Nat, H0.size ≤ q → A0 q) (q_t q_t_sums : Nat) (t_sums : Nat → Int64) (a1 : Int32) (r : Int64) (h : f_X0_sumOfSize t_sums a1 = some r) (KR : ∀ (H : Heap) (locs : List Loc) (ls : Array Slot) (pc : Nat), decode cX0_sumOfSize pc = .ok (.lreturn, 1) → va_P G.1 vwCl [(q_t, .inr (0, [.ref q_t_sums])), (q_t_sums, .inl (G.2 1, 128, .inr (.inl t_sums)))] H → va_D A0 [(q_t, .inr (0, [.ref q_t_sums])), (q_t_sums, .inl (G.2 1, 128, .inr (.inl t_sums)))] → va_S A0 H0 H locs → W p l e ({ frames := 1, cells := 0, slots := 0, locals := 20 } : Room) s m args below meth c H locs 0 0 Q (F0 m pc ls [.long r])) : ∀ (H : Heap) (locs : List Loc) (ls : Array Slot), va_P G.1 vwCl [(q_t, .inr (0, [.ref q_t_sums])), (q_t_sums, .inl (G.2 1, 128, .inr (.inl t_sums)))] H → va_D A0 [(q_t, .inr (0, [.ref q_t_sums])), (q_t_sums, .inl (G.2 1, 128, .inr (.inl t_sums)))] → va_S A0 H0 H locs → lv_has ls 5 [(0, .ref q_t), (1, .int a1)] → W p l e ({ frames := 1, cells := 0, slots := 0, locals := 20 } : Room) s m args below meth c H locs 0 0 Q (F0 m 0 ls []) := by
  obtain ⟨hx, hb, hml, hown, hts⟩ := C
  intro H locs ls hP hD hS hl
  rw [f_X0_sumOfSize] at h
  refine lv_lconst (v := 0) hx hb dX0_sumOfSize_0 (by decide) ?_
  refine lv_lstore_n (lv' := [(2, .long (0 : Int64)), (0, .ref q_t), (1, .int a1)]) hx hb dX0_sumOfSize_1 rfl hl (by decide) rfl (fun ls hl => ?_)
  refine lv_iconst (v := 0) hx hb dX0_sumOfSize_2 (by decide) ?_
  refine lv_istore (lv' := [(4, .int (0 : Int32)), (2, .long (0 : Int64)), (0, .ref q_t), (1, .int a1)]) hx hb dX0_sumOfSize_3 hl (by decide) rfl (fun ls hl => ?_)
  obtain ⟨x2_9, hz_11, h⟩ := bd_ok h
  refine l_X0_sumOfSize_1 ⟨hx, hb, hml, hown, hts⟩ G hK hA q_t q_t_sums a1 t_sums x2_9 ?_ FU (0 : Int64) (0 : Int32) hz_11 H locs ls hP hD hS (lv_sub hl [2, 3, 1, 0] rfl)
  intro H locs ls hP hD hS hl
  refine lv_lload_n hx hb dX0_sumOfSize_38 rfl (lv_at hl 0 rfl) ?_
  obtain rfl := sm1 h
  exact KR H locs ls 39 dX0_sumOfSize_39 hP hD hS
set_option maxHeartbeats 4000000 in
set_option maxRecDepth 100000 in
theorem c_X0_sumOfSize (l : Launch) (G : GT) (q_t q_t_sums : Nat) (sz : Nat) (t_sums : Nat → Int64) (a1 : Int32) (r : Int64) (h : f_X0_sumOfSize t_sums a1 = some r) : Met l yX0_sumOfSize wsX0_sumOfSize ({ frames := 1, cells := 0, slots := 0, locals := 20 } : Room) (va_Pc [.ref q_t, .int a1] (pcW G [(q_t, .inr (0, [.ref q_t_sums])), (q_t_sums, .inl (G.2 1, 128, .inr (.inl t_sums)))] sz)) (va_Ql (fun r9 (_ : Unit) => r9 = r) (fun _ t => atW G (va_A [(q_t, .inr (0, [.ref q_t_sums])), (q_t_sums, .inl (G.2 1, 128, .inr (.inl t_sums)))] sz) [(q_t, .inr (0, [.ref q_t_sums])), (q_t_sums, .inl (G.2 1, 128, .inr (.inl t_sums)))] t) (va_A [(q_t, .inr (0, [.ref q_t_sums])), (q_t_sums, .inl (G.2 1, 128, .inr (.inl t_sums)))] sz)) 0 0 (va_A [(q_t, .inr (0, [.ref q_t_sums])), (q_t_sums, .inl (G.2 1, 128, .inr (.inl t_sums)))] sz) := by
  refine Met.ofW (cc := cX0_sumOfSize) (maxL := 5) (ret := (some .long)) (by decide) rfl ?_
  intro p e s m args below meth c s₁ B hml hv
  obtain ⟨rfl, hsz, hP, hK, hD0⟩ := hv
  subst hsz
  have hD := hD0.self (sz := s.heap.size)
  generalize hAe : va_A [(q_t, .inr (0, [.ref q_t_sums])), (q_t_sums, .inl (G.2 1, 128, .inr (.inl t_sums)))] s.heap.size = A at hD ⊢
  have hA : ∀ q : Nat, s.heap.size ≤ q → A q := fun q h => by rw [← hAe]; exact Or.inr h
  have hl := lv_entry ([.ref q_t, .int a1]) (n := 5) (Nat.le_of_ble_eq_true rfl)
  rw [lg_entry_eq]
  refine k_X0_sumOfSize ⟨B.exec, B.bytes, hml, findClass_of_methodNamed B.named, atoms_spec (ws := wsX0_sumOfSize) B.pre⟩ G hK hA q_t q_t_sums _ _ _ h ?_ _ _ _ hP hD va_S.rf hl
  intro H locs ls pc hd hP hD hS
  exact W.lret B.exec B.bytes B.returns (fun t ht hW => ⟨⟨r, (), rfl, rfl, by rw [ht]; exact hP, hD⟩, hS.F ht⟩) hS.2.2 hd B.notSynchronized
set_option maxRecDepth 20000 in
theorem wd_X0_sumOfAll_1 : Cond.fieldLink RX0 9 "PermanentDesk$ColumnSums" "sums" "[J" ∈ wsX0_sumOfAll := List.mem_of_getElem? (i := 1) (by decide +kernel)
set_option maxRecDepth 20000 in
theorem wi_X0_sumOfAll_X0 : ∀ w ∈ u_ws RX0 TX0 1, w ∈ wsX0_sumOfAll := by decide +kernel
def f_X0_sumOfAll_L1 (t_sums : Nat → Int64) : (Int64 × Int32) → Option ((Int64 × Int32) ⊕ Int64)
  | (x1, x3) =>
    if (128 : Int32) ≤ x3 then
      some (.inr x1)
    else
      gd (okI x3 128) (
      pl ((x1 + (t_sums x3.toNatClampNeg)) : Int64) (fun x1_3 =>
      pl ((x3 + (1 : Int32)) : Int32) (fun x3_4 =>
      some (.inl (x1_3, x3_4)))))
def f_X0_sumOfAll (t_sums : Nat → Int64) : Option Int64 :=
  (lpN (f_X0_sumOfAll_L1 t_sums) FU ((0 : Int64), (0 : Int32))).bind (fun x1_5 =>
  some x1_5)
set_option maxHeartbeats 4000000 in
set_option maxRecDepth 100000 in
theorem l_X0_sumOfAll_1 {p : Program} {l : Launch} {e : Env} {s : State} {m : MethodId} {args : Array Value} {below : List Frame} {meth : Method} {c : Code} {Q : State → Prop} {A0 : Nat → Prop} {H0 : Heap} (C : CallFix p m c cX0_sumOfAll 4 s args wsX0_sumOfAll RX0) (G : GT) (hK : gK G s) (hA : ∀ q : Nat, H0.size ≤ q → A0 q) (q_t q_t_sums : Nat) (t_sums : Nat → Int64) (E_x1 : Int64) (K : ∀ (H : Heap) (locs : List Loc) (ls : Array Slot), va_P G.1 vwCl [(q_t, .inr (0, [.ref q_t_sums])), (q_t_sums, .inl (G.2 1, 128, .inr (.inl t_sums)))] H → va_D A0 [(q_t, .inr (0, [.ref q_t_sums])), (q_t_sums, .inl (G.2 1, 128, .inr (.inl t_sums)))] → va_S A0 H0 H locs → lv_has ls 4 [(1, .long E_x1)] → W p l e ({ frames := 0, cells := 0, slots := 0, locals := 0 } : Room) s m args below meth c H locs 0 0 Q (F0 m 26 ls [])) : ∀ (n : Nat) (x1 : Int64) (x3 : Int32), lpN (f_X0_sumOfAll_L1 t_sums) n (x1, x3) = some E_x1 → ∀ (H : Heap) (locs : List Loc) (ls : Array Slot), va_P G.1 vwCl [(q_t, .inr (0, [.ref q_t_sums])), (q_t_sums, .inl (G.2 1, 128, .inr (.inl t_sums)))] H → va_D A0 [(q_t, .inr (0, [.ref q_t_sums])), (q_t_sums, .inl (G.2 1, 128, .inr (.inl t_sums)))] → va_S A0 H0 H locs → lv_has ls 4 [(0, .ref q_t), (1, .long x1), (3, .int x3)] → W p l e ({ frames := 0, cells := 0, slots := 0, locals := 0 } : Room) s m args below meth c H locs 0 0 Q (F0 m 4 ls []) := by
  obtain ⟨hx, hb, hml, hown, hts⟩ := C
  intro n
  induction n with
  | zero => intro x1 x3 h; exact absurd h (fun h => lp_0 h)
  | succ n ih =>
    intro x1 x3 h H locs ls hP hD hS hl
    obtain ⟨y, h, hk⟩ := lp_s h
    rw [f_X0_sumOfAll_L1] at h
    refine lv_iload_n hx hb dX0_sumOfAll_4 rfl (lv_at hl 2 rfl) ?_
    refine lv_sipush (v := 128) hx hb dX0_sumOfAll_5 (by decide) ?_
    refine lv_icmp_ge (tgt := 26) hx hb dX0_sumOfAll_8 (by decide) (fun c_1 => ?_) (fun c_1 => ?_)
    · replace h := it_t h c_1
      obtain rfl := sm1 h
      obtain rfl := sm1 hk
      exact K H locs ls hP hD hS (lv_sub hl [1] rfl)
    · replace h := it_f h c_1
      refine lv_lload_n hx hb dX0_sumOfAll_11 rfl (lv_at hl 1 rfl) ?_
      refine lv_aload_n hx hb dX0_sumOfAll_12 rfl (lv_at hl 0 rfl) ?_
      refine va_get (D := G.1) (ci := 0) (v := .ref q_t_sums) (C := RX0) (T := TX0) (N := 1) hx hb hts wi_X0_sumOfAll_X0 hown hK hP 0 rfl rfl 0 (by decide) (hts _ wd_X0_sumOfAll_1) (fun _ h9 => h9) rfl dX0_sumOfAll_13 ?_
      refine lv_iload_n hx hb dX0_sumOfAll_16 rfl (lv_at hl 2 rfl) ?_
      obtain ⟨g_2, h⟩ := gd_ok h
      refine va_lald (D := G.1) hx hb hK hP 1 1 rfl rfl g_2 dX0_sumOfAll_17 ?_
      refine lv_ladd hx hb dX0_sumOfAll_18 ?_
      refine lv_topl (fun x1_3 ex1_3 => ?_)
      replace h := pl_v h ex1_3
      refine lv_lstore_n (lv' := [(1, .long x1_3), (0, .ref q_t), (3, .int x3)]) hx hb dX0_sumOfAll_19 rfl hl (by decide) rfl (fun ls hl => ?_)
      obtain ⟨x3_4, ex3_4, h⟩ := pl_ok h
      refine lv_iinc (v := x3_4) (lv' := [(3, .int x3_4), (1, .long x1_3), (0, .ref q_t)]) hx hb dX0_sumOfAll_20 hl (k := 2) rfl (by rw [ex3_4]; rfl) (by decide) rfl (fun ls hl => ?_)
      refine lv_goto (tgt := 4) hx hb dX0_sumOfAll_23 (by decide) ?_
      obtain rfl := sm1 h
      exact ih x1_3 x3_4 hk H locs ls hP hD hS (lv_sub hl [2, 1, 0] rfl)
set_option maxHeartbeats 4000000 in
set_option maxRecDepth 100000 in
theorem k_X0_sumOfAll {p : Program} {l : Launch} {e : Env} {s : State} {m : MethodId} {args : Array Value} {below : List Frame} {meth : Method} {c : Code} {Q : State → Prop} {A0 : Nat → Prop} {H0 : Heap} (C : CallFix p m c cX0_sumOfAll 4 s args wsX0_sumOfAll RX0) (G : GT) (hK : gK G s) (hA : ∀ q : Nat, H0.size ≤ q → A0 q) (q_t q_t_sums : Nat) (t_sums : Nat → Int64) (r : Int64) (h : f_X0_sumOfAll t_sums = some r) (KR : ∀ (H : Heap) (locs : List Loc) (ls : Array Slot) (pc : Nat), decode cX0_sumOfAll pc = .ok (.lreturn, 1) → va_P G.1 vwCl [(q_t, .inr (0, [.ref q_t_sums])), (q_t_sums, .inl (G.2 1, 128, .inr (.inl t_sums)))] H → va_D A0 [(q_t, .inr (0, [.ref q_t_sums])), (q_t_sums, .inl (G.2 1, 128, .inr (.inl t_sums)))] → va_S A0 H0 H locs → W p l e ({ frames := 0, cells := 0, slots := 0, locals := 0 } : Room) s m args below meth c H locs 0 0 Q (F0 m pc ls [.long r])) : ∀ (H : Heap) (locs : List Loc) (ls : Array Slot), va_P G.1 vwCl [(q_t, .inr (0, [.ref q_t_sums])), (q_t_sums, .inl (G.2 1, 128, .inr (.inl t_sums)))] H → va_D A0 [(q_t, .inr (0, [.ref q_t_sums])), (q_t_sums, .inl (G.2 1, 128, .inr (.inl t_sums)))] → va_S A0 H0 H locs → lv_has ls 4 [(0, .ref q_t)] → W p l e ({ frames := 0, cells := 0, slots := 0, locals := 0 } : Room) s m args below meth c H locs 0 0 Q (F0 m 0 ls []) := by
  obtain ⟨hx, hb, hml, hown, hts⟩ := C
  intro H locs ls hP hD hS hl
  rw [f_X0_sumOfAll] at h
  refine lv_lconst (v := 0) hx hb dX0_sumOfAll_0 (by decide) ?_
  refine lv_lstore_n (lv' := [(1, .long (0 : Int64)), (0, .ref q_t)]) hx hb dX0_sumOfAll_1 rfl hl (by decide) rfl (fun ls hl => ?_)
  refine lv_iconst (v := 0) hx hb dX0_sumOfAll_2 (by decide) ?_
  refine lv_istore_n (lv' := [(3, .int (0 : Int32)), (1, .long (0 : Int64)), (0, .ref q_t)]) hx hb dX0_sumOfAll_3 rfl hl (by decide) rfl (fun ls hl => ?_)
  obtain ⟨x1_5, hz_7, h⟩ := bd_ok h
  refine l_X0_sumOfAll_1 ⟨hx, hb, hml, hown, hts⟩ G hK hA q_t q_t_sums t_sums x1_5 ?_ FU (0 : Int64) (0 : Int32) hz_7 H locs ls hP hD hS (lv_sub hl [2, 1, 0] rfl)
  intro H locs ls hP hD hS hl
  refine lv_lload_n hx hb dX0_sumOfAll_26 rfl (lv_at hl 0 rfl) ?_
  obtain rfl := sm1 h
  exact KR H locs ls 27 dX0_sumOfAll_27 hP hD hS
set_option maxHeartbeats 4000000 in
set_option maxRecDepth 100000 in
theorem c_X0_sumOfAll (l : Launch) (G : GT) (q_t q_t_sums : Nat) (sz : Nat) (t_sums : Nat → Int64) (r : Int64) (h : f_X0_sumOfAll t_sums = some r) : Met l yX0_sumOfAll wsX0_sumOfAll ({ frames := 0, cells := 0, slots := 0, locals := 0 } : Room) (va_Pc [.ref q_t] (pcW G [(q_t, .inr (0, [.ref q_t_sums])), (q_t_sums, .inl (G.2 1, 128, .inr (.inl t_sums)))] sz)) (va_Ql (fun r9 (_ : Unit) => r9 = r) (fun _ t => atW G (va_A [(q_t, .inr (0, [.ref q_t_sums])), (q_t_sums, .inl (G.2 1, 128, .inr (.inl t_sums)))] sz) [(q_t, .inr (0, [.ref q_t_sums])), (q_t_sums, .inl (G.2 1, 128, .inr (.inl t_sums)))] t) (va_A [(q_t, .inr (0, [.ref q_t_sums])), (q_t_sums, .inl (G.2 1, 128, .inr (.inl t_sums)))] sz)) 0 0 (va_A [(q_t, .inr (0, [.ref q_t_sums])), (q_t_sums, .inl (G.2 1, 128, .inr (.inl t_sums)))] sz) := by
  refine Met.ofW (cc := cX0_sumOfAll) (maxL := 4) (ret := (some .long)) (by decide) rfl ?_
  intro p e s m args below meth c s₁ B hml hv
  obtain ⟨rfl, hsz, hP, hK, hD0⟩ := hv
  subst hsz
  have hD := hD0.self (sz := s.heap.size)
  generalize hAe : va_A [(q_t, .inr (0, [.ref q_t_sums])), (q_t_sums, .inl (G.2 1, 128, .inr (.inl t_sums)))] s.heap.size = A at hD ⊢
  have hA : ∀ q : Nat, s.heap.size ≤ q → A q := fun q h => by rw [← hAe]; exact Or.inr h
  have hl := lv_entry ([.ref q_t]) (n := 4) (Nat.le_of_ble_eq_true rfl)
  rw [lg_entry_eq]
  refine k_X0_sumOfAll ⟨B.exec, B.bytes, hml, findClass_of_methodNamed B.named, atoms_spec (ws := wsX0_sumOfAll) B.pre⟩ G hK hA q_t q_t_sums _ _ h ?_ _ _ _ hP hD va_S.rf hl
  intro H locs ls pc hd hP hD hS
  exact W.lret B.exec B.bytes B.returns (fun t ht hW => ⟨⟨r, (), rfl, rfl, by rw [ht]; exact hP, hD⟩, hS.F ht⟩) hS.2.2 hd B.notSynchronized
set_option maxRecDepth 20000 in
theorem wd_X0_countNotZero_1 : Cond.fieldLink RX0 9 "PermanentDesk$ColumnSums" "sums" "[J" ∈ wsX0_countNotZero := List.mem_of_getElem? (i := 1) (by decide +kernel)
set_option maxRecDepth 20000 in
theorem wi_X0_countNotZero_X0 : ∀ w ∈ u_ws RX0 TX0 1, w ∈ wsX0_countNotZero := by decide +kernel
def f_X0_countNotZero_L1 (t_sums : Nat → Int64) : (Int32 × Int32) → Option ((Int32 × Int32) ⊕ Int32)
  | (x1, x2) =>
    if (128 : Int32) ≤ x2 then
      some (.inr x1)
    else
      gd (okI x2 128) (
      if (lg_cmp (t_sums x2.toNatClampNeg) (0 : Int64)) = 0 then
        pl ((x2 + (1 : Int32)) : Int32) (fun x2_4 =>
        some (.inl (x1, x2_4)))
      else
        pl ((x1 + (1 : Int32)) : Int32) (fun x1_5 =>
        pl ((x2 + (1 : Int32)) : Int32) (fun x2_6 =>
        some (.inl (x1_5, x2_6)))))
def f_X0_countNotZero (t_sums : Nat → Int64) : Option Int32 :=
  (lpN (f_X0_countNotZero_L1 t_sums) FU ((0 : Int32), (0 : Int32))).bind (fun x1_7 =>
  some x1_7)
set_option maxHeartbeats 4000000 in
set_option maxRecDepth 100000 in
theorem l_X0_countNotZero_1 {p : Program} {l : Launch} {e : Env} {s : State} {m : MethodId} {args : Array Value} {below : List Frame} {meth : Method} {c : Code} {Q : State → Prop} {A0 : Nat → Prop} {H0 : Heap} (C : CallFix p m c cX0_countNotZero 3 s args wsX0_countNotZero RX0) (G : GT) (hK : gK G s) (hA : ∀ q : Nat, H0.size ≤ q → A0 q) (q_t q_t_sums : Nat) (t_sums : Nat → Int64) (E_x1 : Int32) (K : ∀ (H : Heap) (locs : List Loc) (ls : Array Slot), va_P G.1 vwCl [(q_t, .inr (0, [.ref q_t_sums])), (q_t_sums, .inl (G.2 1, 128, .inr (.inl t_sums)))] H → va_D A0 [(q_t, .inr (0, [.ref q_t_sums])), (q_t_sums, .inl (G.2 1, 128, .inr (.inl t_sums)))] → va_S A0 H0 H locs → lv_has ls 3 [(1, .int E_x1)] → W p l e ({ frames := 0, cells := 0, slots := 0, locals := 0 } : Room) s m args below meth c H locs 0 0 Q (F0 m 31 ls [])) : ∀ (n : Nat) (x1 : Int32) (x2 : Int32), lpN (f_X0_countNotZero_L1 t_sums) n (x1, x2) = some E_x1 → ∀ (H : Heap) (locs : List Loc) (ls : Array Slot), va_P G.1 vwCl [(q_t, .inr (0, [.ref q_t_sums])), (q_t_sums, .inl (G.2 1, 128, .inr (.inl t_sums)))] H → va_D A0 [(q_t, .inr (0, [.ref q_t_sums])), (q_t_sums, .inl (G.2 1, 128, .inr (.inl t_sums)))] → va_S A0 H0 H locs → lv_has ls 3 [(0, .ref q_t), (1, .int x1), (2, .int x2)] → W p l e ({ frames := 0, cells := 0, slots := 0, locals := 0 } : Room) s m args below meth c H locs 0 0 Q (F0 m 4 ls []) := by
  obtain ⟨hx, hb, hml, hown, hts⟩ := C
  intro n
  induction n with
  | zero => intro x1 x2 h; exact absurd h (fun h => lp_0 h)
  | succ n ih =>
    intro x1 x2 h H locs ls hP hD hS hl
    obtain ⟨y, h, hk⟩ := lp_s h
    rw [f_X0_countNotZero_L1] at h
    refine lv_iload_n hx hb dX0_countNotZero_4 rfl (lv_at hl 2 rfl) ?_
    refine lv_sipush (v := 128) hx hb dX0_countNotZero_5 (by decide) ?_
    refine lv_icmp_ge (tgt := 31) hx hb dX0_countNotZero_8 (by decide) (fun c_1 => ?_) (fun c_1 => ?_)
    · replace h := it_t h c_1
      obtain rfl := sm1 h
      obtain rfl := sm1 hk
      exact K H locs ls hP hD hS (lv_sub hl [1] rfl)
    · replace h := it_f h c_1
      refine lv_aload_n hx hb dX0_countNotZero_11 rfl (lv_at hl 0 rfl) ?_
      refine va_get (D := G.1) (ci := 0) (v := .ref q_t_sums) (C := RX0) (T := TX0) (N := 1) hx hb hts wi_X0_countNotZero_X0 hown hK hP 0 rfl rfl 0 (by decide) (hts _ wd_X0_countNotZero_1) (fun _ h9 => h9) rfl dX0_countNotZero_12 ?_
      refine lv_iload_n hx hb dX0_countNotZero_15 rfl (lv_at hl 2 rfl) ?_
      obtain ⟨g_2, h⟩ := gd_ok h
      refine va_lald (D := G.1) hx hb hK hP 1 1 rfl rfl g_2 dX0_countNotZero_16 ?_
      refine lv_lconst (v := 0) hx hb dX0_countNotZero_17 (by decide) ?_
      refine W.lcmp hx hb dX0_countNotZero_18 ?_
      refine lv_if_eq (tgt := 25) hx hb dX0_countNotZero_19 (by decide) (fun c_3 => ?_) (fun c_3 => ?_)
      · replace h := it_t h c_3
        obtain ⟨x2_4, ex2_4, h⟩ := pl_ok h
        refine lv_iinc (v := x2_4) (lv' := [(2, .int x2_4), (0, .ref q_t), (1, .int x1)]) hx hb dX0_countNotZero_25 hl (k := 2) rfl (by rw [ex2_4]; rfl) (by decide) rfl (fun ls hl => ?_)
        refine lv_goto (tgt := 4) hx hb dX0_countNotZero_28 (by decide) ?_
        obtain rfl := sm1 h
        exact ih x1 x2_4 hk H locs ls hP hD hS (lv_sub hl [1, 2, 0] rfl)
      · replace h := it_f h c_3
        obtain ⟨x1_5, ex1_5, h⟩ := pl_ok h
        refine lv_iinc (v := x1_5) (lv' := [(1, .int x1_5), (0, .ref q_t), (2, .int x2)]) hx hb dX0_countNotZero_22 hl (k := 1) rfl (by rw [ex1_5]; rfl) (by decide) rfl (fun ls hl => ?_)
        obtain ⟨x2_6, ex2_6, h⟩ := pl_ok h
        refine lv_iinc (v := x2_6) (lv' := [(2, .int x2_6), (1, .int x1_5), (0, .ref q_t)]) hx hb dX0_countNotZero_25 hl (k := 2) rfl (by rw [ex2_6]; rfl) (by decide) rfl (fun ls hl => ?_)
        refine lv_goto (tgt := 4) hx hb dX0_countNotZero_28 (by decide) ?_
        obtain rfl := sm1 h
        exact ih x1_5 x2_6 hk H locs ls hP hD hS (lv_sub hl [2, 1, 0] rfl)
set_option maxHeartbeats 4000000 in
set_option maxRecDepth 100000 in
theorem k_X0_countNotZero {p : Program} {l : Launch} {e : Env} {s : State} {m : MethodId} {args : Array Value} {below : List Frame} {meth : Method} {c : Code} {Q : State → Prop} {A0 : Nat → Prop} {H0 : Heap} (C : CallFix p m c cX0_countNotZero 3 s args wsX0_countNotZero RX0) (G : GT) (hK : gK G s) (hA : ∀ q : Nat, H0.size ≤ q → A0 q) (q_t q_t_sums : Nat) (t_sums : Nat → Int64) (r : Int32) (h : f_X0_countNotZero t_sums = some r) (KR : ∀ (H : Heap) (locs : List Loc) (ls : Array Slot) (pc : Nat), decode cX0_countNotZero pc = .ok (.ireturn, 1) → va_P G.1 vwCl [(q_t, .inr (0, [.ref q_t_sums])), (q_t_sums, .inl (G.2 1, 128, .inr (.inl t_sums)))] H → va_D A0 [(q_t, .inr (0, [.ref q_t_sums])), (q_t_sums, .inl (G.2 1, 128, .inr (.inl t_sums)))] → va_S A0 H0 H locs → W p l e ({ frames := 0, cells := 0, slots := 0, locals := 0 } : Room) s m args below meth c H locs 0 0 Q (F0 m pc ls [.int r])) : ∀ (H : Heap) (locs : List Loc) (ls : Array Slot), va_P G.1 vwCl [(q_t, .inr (0, [.ref q_t_sums])), (q_t_sums, .inl (G.2 1, 128, .inr (.inl t_sums)))] H → va_D A0 [(q_t, .inr (0, [.ref q_t_sums])), (q_t_sums, .inl (G.2 1, 128, .inr (.inl t_sums)))] → va_S A0 H0 H locs → lv_has ls 3 [(0, .ref q_t)] → W p l e ({ frames := 0, cells := 0, slots := 0, locals := 0 } : Room) s m args below meth c H locs 0 0 Q (F0 m 0 ls []) := by
  obtain ⟨hx, hb, hml, hown, hts⟩ := C
  intro H locs ls hP hD hS hl
  rw [f_X0_countNotZero] at h
  refine lv_iconst (v := 0) hx hb dX0_countNotZero_0 (by decide) ?_
  refine lv_istore_n (lv' := [(1, .int (0 : Int32)), (0, .ref q_t)]) hx hb dX0_countNotZero_1 rfl hl (by decide) rfl (fun ls hl => ?_)
  refine lv_iconst (v := 0) hx hb dX0_countNotZero_2 (by decide) ?_
  refine lv_istore_n (lv' := [(2, .int (0 : Int32)), (1, .int (0 : Int32)), (0, .ref q_t)]) hx hb dX0_countNotZero_3 rfl hl (by decide) rfl (fun ls hl => ?_)
  obtain ⟨x1_7, hz_9, h⟩ := bd_ok h
  refine l_X0_countNotZero_1 ⟨hx, hb, hml, hown, hts⟩ G hK hA q_t q_t_sums t_sums x1_7 ?_ FU (0 : Int32) (0 : Int32) hz_9 H locs ls hP hD hS (lv_sub hl [2, 1, 0] rfl)
  intro H locs ls hP hD hS hl
  refine lv_iload_n hx hb dX0_countNotZero_31 rfl (lv_at hl 0 rfl) ?_
  obtain rfl := sm1 h
  exact KR H locs ls 32 dX0_countNotZero_32 hP hD hS
set_option maxHeartbeats 4000000 in
set_option maxRecDepth 100000 in
theorem c_X0_countNotZero (l : Launch) (G : GT) (q_t q_t_sums : Nat) (sz : Nat) (t_sums : Nat → Int64) (r : Int32) (h : f_X0_countNotZero t_sums = some r) : Met l yX0_countNotZero wsX0_countNotZero ({ frames := 0, cells := 0, slots := 0, locals := 0 } : Room) (va_Pc [.ref q_t] (pcW G [(q_t, .inr (0, [.ref q_t_sums])), (q_t_sums, .inl (G.2 1, 128, .inr (.inl t_sums)))] sz)) (va_Qi (fun r9 (_ : Unit) => r9 = r) (fun _ t => atW G (va_A [(q_t, .inr (0, [.ref q_t_sums])), (q_t_sums, .inl (G.2 1, 128, .inr (.inl t_sums)))] sz) [(q_t, .inr (0, [.ref q_t_sums])), (q_t_sums, .inl (G.2 1, 128, .inr (.inl t_sums)))] t) (va_A [(q_t, .inr (0, [.ref q_t_sums])), (q_t_sums, .inl (G.2 1, 128, .inr (.inl t_sums)))] sz)) 0 0 (va_A [(q_t, .inr (0, [.ref q_t_sums])), (q_t_sums, .inl (G.2 1, 128, .inr (.inl t_sums)))] sz) := by
  refine Met.ofW (cc := cX0_countNotZero) (maxL := 3) (ret := (some .int)) (by decide) rfl ?_
  intro p e s m args below meth c s₁ B hml hv
  obtain ⟨rfl, hsz, hP, hK, hD0⟩ := hv
  subst hsz
  have hD := hD0.self (sz := s.heap.size)
  generalize hAe : va_A [(q_t, .inr (0, [.ref q_t_sums])), (q_t_sums, .inl (G.2 1, 128, .inr (.inl t_sums)))] s.heap.size = A at hD ⊢
  have hA : ∀ q : Nat, s.heap.size ≤ q → A q := fun q h => by rw [← hAe]; exact Or.inr h
  have hl := lv_entry ([.ref q_t]) (n := 3) (Nat.le_of_ble_eq_true rfl)
  rw [lg_entry_eq]
  refine k_X0_countNotZero ⟨B.exec, B.bytes, hml, findClass_of_methodNamed B.named, atoms_spec (ws := wsX0_countNotZero) B.pre⟩ G hK hA q_t q_t_sums _ _ h ?_ _ _ _ hP hD va_S.rf hl
  intro H locs ls pc hd hP hD hS
  exact W.iret B.exec B.bytes B.returns (fun t ht hW => ⟨⟨r, (), rfl, rfl, by rw [ht]; exact hP, hD⟩, hS.F ht⟩) hS.2.2 hd B.notSynchronized
