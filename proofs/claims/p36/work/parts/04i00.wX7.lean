set_option maxRecDepth 20000 in
theorem wd_X7_length_1 : Cond.fieldLink RX7 15 "PermanentDesk$Text" "length" "I" ∈ wsX7_length := List.mem_of_getElem? (i := 1) (by decide +kernel)
set_option maxRecDepth 20000 in
theorem wi_X7_length_X7 : ∀ w ∈ u_ws RX7 TX7 2, w ∈ wsX7_length := by decide +kernel
def f_X7_length (t_length : Int32) : Option Int32 :=
  some t_length
set_option maxHeartbeats 4000000 in
set_option maxRecDepth 100000 in
theorem k_X7_length {p : Program} {l : Launch} {e : Env} {s : State} {m : MethodId} {args : Array Value} {below : List Frame} {meth : Method} {c : Code} {Q : State → Prop} {A0 : Nat → Prop} {H0 : Heap} (C : CallFix p m c cX7_length 1 s args wsX7_length RX7) (G : GT) (hK : gK G s) (hA : ∀ q : Nat, H0.size ≤ q → A0 q) (q_t q_t_characters : Nat) (t_length : Int32) (r : Int32) (h : f_X7_length t_length = some r) (KR : ∀ (H : Heap) (locs : List Loc) (ls : Array Slot) (pc : Nat), decode cX7_length pc = .ok (.ireturn, 1) → va_P G.1 vwCl [(q_t, .inr (6, [.ref q_t_characters, .int t_length]))] H → va_D A0 [(q_t, .inr (6, [.ref q_t_characters, .int t_length]))] → va_S A0 H0 H locs → W p l e ({ frames := 0, cells := 0, slots := 0, locals := 0 } : Room) s m args below meth c H locs 0 0 Q (F0 m pc ls [.int r])) : ∀ (H : Heap) (locs : List Loc) (ls : Array Slot), va_P G.1 vwCl [(q_t, .inr (6, [.ref q_t_characters, .int t_length]))] H → va_D A0 [(q_t, .inr (6, [.ref q_t_characters, .int t_length]))] → va_S A0 H0 H locs → lv_has ls 1 [(0, .ref q_t)] → W p l e ({ frames := 0, cells := 0, slots := 0, locals := 0 } : Room) s m args below meth c H locs 0 0 Q (F0 m 0 ls []) := by
  obtain ⟨hx, hb, hml, hown, hts⟩ := C
  intro H locs ls hP hD hS hl
  rw [f_X7_length] at h
  refine lv_aload_n hx hb dX7_length_0 rfl (lv_at hl 0 rfl) ?_
  refine va_get (D := G.1) (ci := 6) (v := .int t_length) (C := RX7) (T := TX7) (N := 2) hx hb hts wi_X7_length_X7 hown hK hP 0 rfl rfl 1 (by decide) (hts _ wd_X7_length_1) (fun _ h9 => h9) rfl dX7_length_1 ?_
  obtain rfl := sm1 h
  exact KR H locs ls 4 dX7_length_4 hP hD hS
set_option maxHeartbeats 4000000 in
set_option maxRecDepth 100000 in
theorem c_X7_length (l : Launch) (G : GT) (q_t q_t_characters : Nat) (sz : Nat) (t_length : Int32) (r : Int32) (h : f_X7_length t_length = some r) : Met l yX7_length wsX7_length ({ frames := 0, cells := 0, slots := 0, locals := 0 } : Room) (va_Pc [.ref q_t] (pcW G [(q_t, .inr (6, [.ref q_t_characters, .int t_length]))] sz)) (va_Qi (fun r9 (_ : Unit) => r9 = r) (fun _ t => atW G (va_A [(q_t, .inr (6, [.ref q_t_characters, .int t_length]))] sz) [(q_t, .inr (6, [.ref q_t_characters, .int t_length]))] t) (va_A [(q_t, .inr (6, [.ref q_t_characters, .int t_length]))] sz)) 0 0 (va_A [(q_t, .inr (6, [.ref q_t_characters, .int t_length]))] sz) := by
  refine Met.ofW (cc := cX7_length) (maxL := 1) (ret := (some .int)) (by decide) rfl ?_
  intro p e s m args below meth c s₁ B hml hv
  obtain ⟨rfl, hsz, hP, hK, hD0⟩ := hv
  subst hsz
  have hD := hD0.self (sz := s.heap.size)
  generalize hAe : va_A [(q_t, .inr (6, [.ref q_t_characters, .int t_length]))] s.heap.size = A at hD ⊢
  have hA : ∀ q : Nat, s.heap.size ≤ q → A q := fun q h => by rw [← hAe]; exact Or.inr h
  have hl := lv_entry ([.ref q_t]) (n := 1) (Nat.le_of_ble_eq_true rfl)
  rw [lg_entry_eq]
  refine k_X7_length ⟨B.exec, B.bytes, hml, findClass_of_methodNamed B.named, atoms_spec (ws := wsX7_length) B.pre⟩ G hK hA q_t q_t_characters _ _ h ?_ _ _ _ hP hD va_S.rf hl
  intro H locs ls pc hd hP hD hS
  exact W.iret B.exec B.bytes B.returns (fun t ht hW => ⟨⟨r, (), rfl, rfl, by rw [ht]; exact hP, hD⟩, hS.F ht⟩) hS.2.2 hd B.notSynchronized
set_option maxRecDepth 20000 in
theorem wd_X7_empty_1 : Cond.fieldLink RX7 15 "PermanentDesk$Text" "length" "I" ∈ wsX7_empty := List.mem_of_getElem? (i := 1) (by decide +kernel)
set_option maxRecDepth 20000 in
theorem wi_X7_empty_X7 : ∀ w ∈ u_ws RX7 TX7 2, w ∈ wsX7_empty := by decide +kernel
def f_X7_empty (t_length : Int32) : Option Int32 :=
  some (0 : Int32)
set_option maxHeartbeats 4000000 in
set_option maxRecDepth 100000 in
theorem k_X7_empty {p : Program} {l : Launch} {e : Env} {s : State} {m : MethodId} {args : Array Value} {below : List Frame} {meth : Method} {c : Code} {Q : State → Prop} {A0 : Nat → Prop} {H0 : Heap} (C : CallFix p m c cX7_empty 1 s args wsX7_empty RX7) (G : GT) (hK : gK G s) (hA : ∀ q : Nat, H0.size ≤ q → A0 q) (q_t q_t_characters : Nat) (t_length : Int32) (o_t_length : Int32) (h : f_X7_empty t_length = some o_t_length) (KR : ∀ (H : Heap) (locs : List Loc) (ls : Array Slot) (pc : Nat), decode cX7_empty pc = .ok (.return_, 1) → va_P G.1 vwCl [(q_t, .inr (6, [.ref q_t_characters, .int o_t_length]))] H → va_D A0 [(q_t, .inr (6, [.ref q_t_characters, .int o_t_length]))] → va_S A0 H0 H locs → W p l e ({ frames := 0, cells := 0, slots := 0, locals := 0 } : Room) s m args below meth c H locs 0 0 Q (F0 m pc ls [])) : ∀ (H : Heap) (locs : List Loc) (ls : Array Slot), va_P G.1 vwCl [(q_t, .inr (6, [.ref q_t_characters, .int t_length]))] H → va_D A0 [(q_t, .inr (6, [.ref q_t_characters, .int t_length]))] → va_S A0 H0 H locs → lv_has ls 1 [(0, .ref q_t)] → W p l e ({ frames := 0, cells := 0, slots := 0, locals := 0 } : Room) s m args below meth c H locs 0 0 Q (F0 m 0 ls []) := by
  obtain ⟨hx, hb, hml, hown, hts⟩ := C
  intro H locs ls hP hD hS hl
  rw [f_X7_empty] at h
  refine lv_aload_n hx hb dX7_empty_0 rfl (lv_at hl 0 rfl) ?_
  refine lv_iconst (v := 0) hx hb dX7_empty_1 (by decide) ?_
  refine st_put (D := G.1) (ci := 6) (v := .int (0 : Int32)) (ty := .int) (C := RX7) (T := TX7) (N := 2) (wn := [(q_t, .inr (6, [.ref q_t_characters, .int (0 : Int32)]))]) hx hb hts wi_X7_empty_X7 tyX7 tyX7_ok nmX7 hown hK hP hD hS 0 rfl rfl 1 (by decide) (hts _ wd_X7_empty_1) (fun _ h9 => h9) rfl (by decide +kernel) rfl rfl (Nat.le_of_ble_eq_true rfl) dX7_empty_2 rfl (fun H locs hP hD hS => ?_)
  obtain rfl := sm1 h
  exact KR H locs ls 5 dX7_empty_5 hP hD hS
set_option maxHeartbeats 4000000 in
set_option maxRecDepth 100000 in
theorem c_X7_empty (l : Launch) (G : GT) (q_t q_t_characters : Nat) (sz : Nat) (t_length : Int32) (o_t_length : Int32) (h : f_X7_empty t_length = some o_t_length) : Met l yX7_empty wsX7_empty ({ frames := 0, cells := 0, slots := 0, locals := 0 } : Room) (va_Pc [.ref q_t] (pcW G [(q_t, .inr (6, [.ref q_t_characters, .int t_length]))] sz)) (va_Qv (fun (_ : Unit) => True) (fun _ t => atW G (va_A [(q_t, .inr (6, [.ref q_t_characters, .int t_length]))] sz) [(q_t, .inr (6, [.ref q_t_characters, .int o_t_length]))] t) (va_A [(q_t, .inr (6, [.ref q_t_characters, .int t_length]))] sz)) 0 0 (va_A [(q_t, .inr (6, [.ref q_t_characters, .int t_length]))] sz) := by
  refine Met.ofW (cc := cX7_empty) (maxL := 1) (ret := none) (by decide) rfl ?_
  intro p e s m args below meth c s₁ B hml hv
  obtain ⟨rfl, hsz, hP, hK, hD0⟩ := hv
  subst hsz
  have hD := hD0.self (sz := s.heap.size)
  generalize hAe : va_A [(q_t, .inr (6, [.ref q_t_characters, .int t_length]))] s.heap.size = A at hD ⊢
  have hA : ∀ q : Nat, s.heap.size ≤ q → A q := fun q h => by rw [← hAe]; exact Or.inr h
  have hl := lv_entry ([.ref q_t]) (n := 1) (Nat.le_of_ble_eq_true rfl)
  rw [lg_entry_eq]
  refine k_X7_empty ⟨B.exec, B.bytes, hml, findClass_of_methodNamed B.named, atoms_spec (ws := wsX7_empty) B.pre⟩ G hK hA q_t q_t_characters _ _ h ?_ _ _ _ hP hD va_S.rf hl
  intro H locs ls pc hd hP hD hS
  exact W.vret B.exec B.bytes B.returns (fun t ht hW => ⟨⟨(), rfl, trivial, by rw [ht]; exact hP, hD⟩, hS.F ht⟩) hS.2.2 hd B.notSynchronized
set_option maxRecDepth 20000 in
theorem wd_X7_at_1 : Cond.fieldLink RX7 15 "PermanentDesk$Text" "length" "I" ∈ wsX7_at := List.mem_of_getElem? (i := 1) (by decide +kernel)
set_option maxRecDepth 20000 in
theorem wi_X7_at_X7 : ∀ w ∈ u_ws RX7 TX7 2, w ∈ wsX7_at := by decide +kernel
set_option maxRecDepth 20000 in
theorem wd_X7_at_2 : Cond.fieldLink RX7 9 "PermanentDesk$Text" "characters" "[C" ∈ wsX7_at := List.mem_of_getElem? (i := 2) (by decide +kernel)
def f_X7_at (t_length : Int32) (t_characters : Nat → Int32) (a1 : Int32) : Option Int32 :=
  if a1 < 0 then
    some (-1 : Int32)
  else
    if t_length ≤ a1 then
      some (-1 : Int32)
    else
      if (100 : Int32) ≤ a1 then
        some (-1 : Int32)
      else
        gd (okI a1 100) (
        some (t_characters a1.toNatClampNeg))
set_option maxHeartbeats 4000000 in
set_option maxRecDepth 100000 in
theorem k_X7_at {p : Program} {l : Launch} {e : Env} {s : State} {m : MethodId} {args : Array Value} {below : List Frame} {meth : Method} {c : Code} {Q : State → Prop} {A0 : Nat → Prop} {H0 : Heap} (C : CallFix p m c cX7_at 2 s args wsX7_at RX7) (G : GT) (hK : gK G s) (hA : ∀ q : Nat, H0.size ≤ q → A0 q) (q_t q_t_characters : Nat) (t_length : Int32) (t_characters : Nat → Int32) (a1 : Int32) (r : Int32) (h : f_X7_at t_length t_characters a1 = some r) (KR : ∀ (H : Heap) (locs : List Loc) (ls : Array Slot) (pc : Nat), decode cX7_at pc = .ok (.ireturn, 1) → va_P G.1 vwCl [(q_t, .inr (6, [.ref q_t_characters, .int t_length])), (q_t_characters, .inl (G.2 3, 100, .inl t_characters))] H → va_D A0 [(q_t, .inr (6, [.ref q_t_characters, .int t_length])), (q_t_characters, .inl (G.2 3, 100, .inl t_characters))] → va_S A0 H0 H locs → W p l e ({ frames := 0, cells := 0, slots := 0, locals := 0 } : Room) s m args below meth c H locs 0 0 Q (F0 m pc ls [.int r])) : ∀ (H : Heap) (locs : List Loc) (ls : Array Slot), va_P G.1 vwCl [(q_t, .inr (6, [.ref q_t_characters, .int t_length])), (q_t_characters, .inl (G.2 3, 100, .inl t_characters))] H → va_D A0 [(q_t, .inr (6, [.ref q_t_characters, .int t_length])), (q_t_characters, .inl (G.2 3, 100, .inl t_characters))] → va_S A0 H0 H locs → lv_has ls 2 [(0, .ref q_t), (1, .int a1)] → W p l e ({ frames := 0, cells := 0, slots := 0, locals := 0 } : Room) s m args below meth c H locs 0 0 Q (F0 m 0 ls []) := by
  obtain ⟨hx, hb, hml, hown, hts⟩ := C
  intro H locs ls hP hD hS hl
  rw [f_X7_at] at h
  refine lv_iload_n hx hb dX7_at_0 rfl (lv_at hl 1 rfl) ?_
  refine lv_if_lt (tgt := 27) hx hb dX7_at_1 (by decide) (fun c_1 => ?_) (fun c_1 => ?_)
  · replace h := it_t h c_1
    refine lv_iconst (v := -1) hx hb dX7_at_27 (by decide) ?_
    obtain rfl := sm1 h
    exact KR H locs ls 28 dX7_at_28 hP hD hS
  · replace h := it_f h c_1
    refine lv_iload_n hx hb dX7_at_4 rfl (lv_at hl 1 rfl) ?_
    refine lv_aload_n hx hb dX7_at_5 rfl (lv_at hl 0 rfl) ?_
    refine va_get (D := G.1) (ci := 6) (v := .int t_length) (C := RX7) (T := TX7) (N := 2) hx hb hts wi_X7_at_X7 hown hK hP 0 rfl rfl 1 (by decide) (hts _ wd_X7_at_1) (fun _ h9 => h9) rfl dX7_at_6 ?_
    refine lv_icmp_ge (tgt := 27) hx hb dX7_at_9 (by decide) (fun c_2 => ?_) (fun c_2 => ?_)
    · replace h := it_t h c_2
      refine lv_iconst (v := -1) hx hb dX7_at_27 (by decide) ?_
      obtain rfl := sm1 h
      exact KR H locs ls 28 dX7_at_28 hP hD hS
    · replace h := it_f h c_2
      refine lv_iload_n hx hb dX7_at_12 rfl (lv_at hl 1 rfl) ?_
      refine lv_bipush (v := 100) hx hb dX7_at_13 (by decide) ?_
      refine lv_icmp_ge (tgt := 27) hx hb dX7_at_15 (by decide) (fun c_3 => ?_) (fun c_3 => ?_)
      · replace h := it_t h c_3
        refine lv_iconst (v := -1) hx hb dX7_at_27 (by decide) ?_
        obtain rfl := sm1 h
        exact KR H locs ls 28 dX7_at_28 hP hD hS
      · replace h := it_f h c_3
        refine lv_aload_n hx hb dX7_at_18 rfl (lv_at hl 0 rfl) ?_
        refine va_get (D := G.1) (ci := 6) (v := .ref q_t_characters) (C := RX7) (T := TX7) (N := 2) hx hb hts wi_X7_at_X7 hown hK hP 0 rfl rfl 0 (by decide) (hts _ wd_X7_at_2) (fun _ h9 => h9) rfl dX7_at_19 ?_
        refine lv_iload_n hx hb dX7_at_22 rfl (lv_at hl 1 rfl) ?_
        obtain ⟨g_4, h⟩ := gd_ok h
        refine va_cald (D := G.1) hx hb hK hP 1 3 rfl rfl g_4 dX7_at_23 ?_
        refine lv_goto (tgt := 28) hx hb dX7_at_24 (by decide) ?_
        obtain rfl := sm1 h
        exact KR H locs ls 28 dX7_at_28 hP hD hS
set_option maxHeartbeats 4000000 in
set_option maxRecDepth 100000 in
theorem c_X7_at (l : Launch) (G : GT) (q_t q_t_characters : Nat) (sz : Nat) (t_length : Int32) (t_characters : Nat → Int32) (a1 : Int32) (r : Int32) (h : f_X7_at t_length t_characters a1 = some r) : Met l yX7_at wsX7_at ({ frames := 0, cells := 0, slots := 0, locals := 0 } : Room) (va_Pc [.ref q_t, .int a1] (pcW G [(q_t, .inr (6, [.ref q_t_characters, .int t_length])), (q_t_characters, .inl (G.2 3, 100, .inl t_characters))] sz)) (va_Qi (fun r9 (_ : Unit) => r9 = r) (fun _ t => atW G (va_A [(q_t, .inr (6, [.ref q_t_characters, .int t_length])), (q_t_characters, .inl (G.2 3, 100, .inl t_characters))] sz) [(q_t, .inr (6, [.ref q_t_characters, .int t_length])), (q_t_characters, .inl (G.2 3, 100, .inl t_characters))] t) (va_A [(q_t, .inr (6, [.ref q_t_characters, .int t_length])), (q_t_characters, .inl (G.2 3, 100, .inl t_characters))] sz)) 0 0 (va_A [(q_t, .inr (6, [.ref q_t_characters, .int t_length])), (q_t_characters, .inl (G.2 3, 100, .inl t_characters))] sz) := by
  refine Met.ofW (cc := cX7_at) (maxL := 2) (ret := (some .int)) (by decide) rfl ?_
  intro p e s m args below meth c s₁ B hml hv
  obtain ⟨rfl, hsz, hP, hK, hD0⟩ := hv
  subst hsz
  have hD := hD0.self (sz := s.heap.size)
  generalize hAe : va_A [(q_t, .inr (6, [.ref q_t_characters, .int t_length])), (q_t_characters, .inl (G.2 3, 100, .inl t_characters))] s.heap.size = A at hD ⊢
  have hA : ∀ q : Nat, s.heap.size ≤ q → A q := fun q h => by rw [← hAe]; exact Or.inr h
  have hl := lv_entry ([.ref q_t, .int a1]) (n := 2) (Nat.le_of_ble_eq_true rfl)
  rw [lg_entry_eq]
  refine k_X7_at ⟨B.exec, B.bytes, hml, findClass_of_methodNamed B.named, atoms_spec (ws := wsX7_at) B.pre⟩ G hK hA q_t q_t_characters _ _ _ _ h ?_ _ _ _ hP hD va_S.rf hl
  intro H locs ls pc hd hP hD hS
  exact W.iret B.exec B.bytes B.returns (fun t ht hW => ⟨⟨r, (), rfl, rfl, by rw [ht]; exact hP, hD⟩, hS.F ht⟩) hS.2.2 hd B.notSynchronized
