set_option maxRecDepth 20000 in
theorem wd_X8_start_1 : Cond.fieldLink RX8 14 "PermanentDesk$TextReader" "place" "I" ∈ wsX8_start := List.mem_of_getElem? (i := 1) (by decide +kernel)
set_option maxRecDepth 20000 in
theorem wi_X8_start_X8 : ∀ w ∈ u_ws RX8 TX8 5, w ∈ wsX8_start := by decide +kernel
set_option maxRecDepth 20000 in
theorem wd_X8_start_2 : Cond.fieldLink RX8 18 "PermanentDesk$TextReader" "row" "I" ∈ wsX8_start := List.mem_of_getElem? (i := 2) (by decide +kernel)
set_option maxRecDepth 20000 in
theorem wd_X8_start_3 : Cond.fieldLink RX8 21 "PermanentDesk$TextReader" "column" "I" ∈ wsX8_start := List.mem_of_getElem? (i := 3) (by decide +kernel)
set_option maxRecDepth 20000 in
theorem wd_X8_start_4 : Cond.fieldLink RX8 24 "PermanentDesk$TextReader" "rows" "I" ∈ wsX8_start := List.mem_of_getElem? (i := 4) (by decide +kernel)
set_option maxRecDepth 20000 in
theorem wd_X8_start_5 : Cond.fieldLink RX8 27 "PermanentDesk$TextReader" "value" "I" ∈ wsX8_start := List.mem_of_getElem? (i := 5) (by decide +kernel)
def f_X8_start (t_place : Int32) (t_row : Int32) (t_column : Int32) (t_rows : Int32) (t_value : Int32) : Option (Int32 × Int32 × Int32 × Int32 × Int32) :=
  some ((0 : Int32), (0 : Int32), (0 : Int32), (0 : Int32), (0 : Int32))
set_option maxHeartbeats 4000000 in
set_option maxRecDepth 100000 in
theorem k_X8_start {p : Program} {l : Launch} {e : Env} {s : State} {m : MethodId} {args : Array Value} {below : List Frame} {meth : Method} {c : Code} {Q : State → Prop} {A0 : Nat → Prop} {H0 : Heap} (C : CallFix p m c cX8_start 1 s args wsX8_start RX8) (G : GT) (hK : gK G s) (hA : ∀ q : Nat, H0.size ≤ q → A0 q) (q_t : Nat) (t_place : Int32) (t_row : Int32) (t_column : Int32) (t_rows : Int32) (t_value : Int32) (o_t_place : Int32) (o_t_row : Int32) (o_t_column : Int32) (o_t_rows : Int32) (o_t_value : Int32) (h : f_X8_start t_place t_row t_column t_rows t_value = some (o_t_place, o_t_row, o_t_column, o_t_rows, o_t_value)) (KR : ∀ (H : Heap) (locs : List Loc) (ls : Array Slot) (pc : Nat), decode cX8_start pc = .ok (.return_, 1) → va_P G.1 vwCl [(q_t, .inr (7, [.int o_t_place, .int o_t_row, .int o_t_column, .int o_t_rows, .int o_t_value]))] H → va_D A0 [(q_t, .inr (7, [.int o_t_place, .int o_t_row, .int o_t_column, .int o_t_rows, .int o_t_value]))] → va_S A0 H0 H locs → W p l e ({ frames := 0, cells := 0, slots := 0, locals := 0 } : Room) s m args below meth c H locs 0 0 Q (F0 m pc ls [])) : ∀ (H : Heap) (locs : List Loc) (ls : Array Slot), va_P G.1 vwCl [(q_t, .inr (7, [.int t_place, .int t_row, .int t_column, .int t_rows, .int t_value]))] H → va_D A0 [(q_t, .inr (7, [.int t_place, .int t_row, .int t_column, .int t_rows, .int t_value]))] → va_S A0 H0 H locs → lv_has ls 1 [(0, .ref q_t)] → W p l e ({ frames := 0, cells := 0, slots := 0, locals := 0 } : Room) s m args below meth c H locs 0 0 Q (F0 m 0 ls []) := by
  obtain ⟨hx, hb, hml, hown, hts⟩ := C
  intro H locs ls hP hD hS hl
  rw [f_X8_start] at h
  refine lv_aload_n hx hb dX8_start_0 rfl (lv_at hl 0 rfl) ?_
  refine lv_iconst (v := 0) hx hb dX8_start_1 (by decide) ?_
  refine st_put (D := G.1) (ci := 7) (v := .int (0 : Int32)) (ty := .int) (C := RX8) (T := TX8) (N := 5) (wn := [(q_t, .inr (7, [.int (0 : Int32), .int t_row, .int t_column, .int t_rows, .int t_value]))]) hx hb hts wi_X8_start_X8 tyX8 tyX8_ok nmX8 hown hK hP hD hS 0 rfl rfl 0 (by decide) (hts _ wd_X8_start_1) (fun _ h9 => h9) rfl (by decide +kernel) rfl rfl (Nat.le_of_ble_eq_true rfl) dX8_start_2 rfl (fun H locs hP hD hS => ?_)
  refine lv_aload_n hx hb dX8_start_5 rfl (lv_at hl 0 rfl) ?_
  refine lv_iconst (v := 0) hx hb dX8_start_6 (by decide) ?_
  refine st_put (D := G.1) (ci := 7) (v := .int (0 : Int32)) (ty := .int) (C := RX8) (T := TX8) (N := 5) (wn := [(q_t, .inr (7, [.int (0 : Int32), .int (0 : Int32), .int t_column, .int t_rows, .int t_value]))]) hx hb hts wi_X8_start_X8 tyX8 tyX8_ok nmX8 hown hK hP hD hS 0 rfl rfl 1 (by decide) (hts _ wd_X8_start_2) (fun _ h9 => h9) rfl (by decide +kernel) rfl rfl (Nat.le_of_ble_eq_true rfl) dX8_start_7 rfl (fun H locs hP hD hS => ?_)
  refine lv_aload_n hx hb dX8_start_10 rfl (lv_at hl 0 rfl) ?_
  refine lv_iconst (v := 0) hx hb dX8_start_11 (by decide) ?_
  refine st_put (D := G.1) (ci := 7) (v := .int (0 : Int32)) (ty := .int) (C := RX8) (T := TX8) (N := 5) (wn := [(q_t, .inr (7, [.int (0 : Int32), .int (0 : Int32), .int (0 : Int32), .int t_rows, .int t_value]))]) hx hb hts wi_X8_start_X8 tyX8 tyX8_ok nmX8 hown hK hP hD hS 0 rfl rfl 2 (by decide) (hts _ wd_X8_start_3) (fun _ h9 => h9) rfl (by decide +kernel) rfl rfl (Nat.le_of_ble_eq_true rfl) dX8_start_12 rfl (fun H locs hP hD hS => ?_)
  refine lv_aload_n hx hb dX8_start_15 rfl (lv_at hl 0 rfl) ?_
  refine lv_iconst (v := 0) hx hb dX8_start_16 (by decide) ?_
  refine st_put (D := G.1) (ci := 7) (v := .int (0 : Int32)) (ty := .int) (C := RX8) (T := TX8) (N := 5) (wn := [(q_t, .inr (7, [.int (0 : Int32), .int (0 : Int32), .int (0 : Int32), .int (0 : Int32), .int t_value]))]) hx hb hts wi_X8_start_X8 tyX8 tyX8_ok nmX8 hown hK hP hD hS 0 rfl rfl 3 (by decide) (hts _ wd_X8_start_4) (fun _ h9 => h9) rfl (by decide +kernel) rfl rfl (Nat.le_of_ble_eq_true rfl) dX8_start_17 rfl (fun H locs hP hD hS => ?_)
  refine lv_aload_n hx hb dX8_start_20 rfl (lv_at hl 0 rfl) ?_
  refine lv_iconst (v := 0) hx hb dX8_start_21 (by decide) ?_
  refine st_put (D := G.1) (ci := 7) (v := .int (0 : Int32)) (ty := .int) (C := RX8) (T := TX8) (N := 5) (wn := [(q_t, .inr (7, [.int (0 : Int32), .int (0 : Int32), .int (0 : Int32), .int (0 : Int32), .int (0 : Int32)]))]) hx hb hts wi_X8_start_X8 tyX8 tyX8_ok nmX8 hown hK hP hD hS 0 rfl rfl 4 (by decide) (hts _ wd_X8_start_5) (fun _ h9 => h9) rfl (by decide +kernel) rfl rfl (Nat.le_of_ble_eq_true rfl) dX8_start_22 rfl (fun H locs hP hD hS => ?_)
  obtain ⟨rfl, rfl, rfl, rfl, rfl⟩ := sm5 h
  exact KR H locs ls 25 dX8_start_25 hP hD hS
set_option maxHeartbeats 4000000 in
set_option maxRecDepth 100000 in
theorem c_X8_start (l : Launch) (G : GT) (q_t : Nat) (sz : Nat) (t_place : Int32) (t_row : Int32) (t_column : Int32) (t_rows : Int32) (t_value : Int32) (o_t_place : Int32) (o_t_row : Int32) (o_t_column : Int32) (o_t_rows : Int32) (o_t_value : Int32) (h : f_X8_start t_place t_row t_column t_rows t_value = some (o_t_place, o_t_row, o_t_column, o_t_rows, o_t_value)) : Met l yX8_start wsX8_start ({ frames := 0, cells := 0, slots := 0, locals := 0 } : Room) (va_Pc [.ref q_t] (pcW G [(q_t, .inr (7, [.int t_place, .int t_row, .int t_column, .int t_rows, .int t_value]))] sz)) (va_Qv (fun (_ : Unit) => True) (fun _ t => atW G (va_A [(q_t, .inr (7, [.int t_place, .int t_row, .int t_column, .int t_rows, .int t_value]))] sz) [(q_t, .inr (7, [.int o_t_place, .int o_t_row, .int o_t_column, .int o_t_rows, .int o_t_value]))] t) (va_A [(q_t, .inr (7, [.int t_place, .int t_row, .int t_column, .int t_rows, .int t_value]))] sz)) 0 0 (va_A [(q_t, .inr (7, [.int t_place, .int t_row, .int t_column, .int t_rows, .int t_value]))] sz) := by
  refine Met.ofW (cc := cX8_start) (maxL := 1) (ret := none) (by decide) rfl ?_
  intro p e s m args below meth c s₁ B hml hv
  obtain ⟨rfl, hsz, hP, hK, hD0⟩ := hv
  subst hsz
  have hD := hD0.self (sz := s.heap.size)
  generalize hAe : va_A [(q_t, .inr (7, [.int t_place, .int t_row, .int t_column, .int t_rows, .int t_value]))] s.heap.size = A at hD ⊢
  have hA : ∀ q : Nat, s.heap.size ≤ q → A q := fun q h => by rw [← hAe]; exact Or.inr h
  have hl := lv_entry ([.ref q_t]) (n := 1) (Nat.le_of_ble_eq_true rfl)
  rw [lg_entry_eq]
  refine k_X8_start ⟨B.exec, B.bytes, hml, findClass_of_methodNamed B.named, atoms_spec (ws := wsX8_start) B.pre⟩ G hK hA q_t _ _ _ _ _ _ _ _ _ _ h ?_ _ _ _ hP hD va_S.rf hl
  intro H locs ls pc hd hP hD hS
  exact W.vret B.exec B.bytes B.returns (fun t ht hW => ⟨⟨(), rfl, trivial, by rw [ht]; exact hP, hD⟩, hS.F ht⟩) hS.2.2 hd B.notSynchronized
def f_X8_isDigit (a1 : Int32) : Option Int32 :=
  if a1 < (48 : Int32) then
    some (0 : Int32)
  else
    if (57 : Int32) < a1 then
      some (0 : Int32)
    else
      some (1 : Int32)
set_option maxHeartbeats 4000000 in
set_option maxRecDepth 100000 in
theorem k_X8_isDigit {p : Program} {l : Launch} {e : Env} {s : State} {m : MethodId} {args : Array Value} {below : List Frame} {meth : Method} {c : Code} {Q : State → Prop} {A0 : Nat → Prop} {H0 : Heap} (C : CallFix p m c cX8_isDigit 1 s args wsX8_isDigit RX8) (G : GT) (hK : gK G s) (hA : ∀ q : Nat, H0.size ≤ q → A0 q) (a1 : Int32) (r : Int32) (h : f_X8_isDigit a1 = some r) (KR : ∀ (H : Heap) (locs : List Loc) (ls : Array Slot) (pc : Nat), decode cX8_isDigit pc = .ok (.ireturn, 1) → (r = 0 ∨ r = 1) → va_P G.1 vwCl [] H → va_D A0 [] → va_S A0 H0 H locs → W p l e ({ frames := 0, cells := 0, slots := 0, locals := 0 } : Room) s m args below meth c H locs 0 0 Q (F0 m pc ls [.int r])) : ∀ (H : Heap) (locs : List Loc) (ls : Array Slot), va_P G.1 vwCl [] H → va_D A0 [] → va_S A0 H0 H locs → lv_has ls 1 [(0, .int a1)] → W p l e ({ frames := 0, cells := 0, slots := 0, locals := 0 } : Room) s m args below meth c H locs 0 0 Q (F0 m 0 ls []) := by
  obtain ⟨hx, hb, hml, hown, hts⟩ := C
  intro H locs ls hP hD hS hl
  rw [f_X8_isDigit] at h
  refine lv_iload_n hx hb dX8_isDigit_0 rfl (lv_at hl 0 rfl) ?_
  refine lv_bipush (v := 48) hx hb dX8_isDigit_1 (by decide) ?_
  refine lv_icmp_lt (tgt := 16) hx hb dX8_isDigit_3 (by decide) (fun c_1 => ?_) (fun c_1 => ?_)
  · replace h := it_t h c_1
    refine lv_iconst (v := 0) hx hb dX8_isDigit_16 (by decide) ?_
    obtain rfl := sm1 h
    exact KR H locs ls 17 dX8_isDigit_17 (Or.inl rfl) hP hD hS
  · replace h := it_f h c_1
    refine lv_iload_n hx hb dX8_isDigit_6 rfl (lv_at hl 0 rfl) ?_
    refine lv_bipush (v := 57) hx hb dX8_isDigit_7 (by decide) ?_
    refine lv_icmp_gt (tgt := 16) hx hb dX8_isDigit_9 (by decide) (fun c_2 => ?_) (fun c_2 => ?_)
    · replace h := it_t h c_2
      refine lv_iconst (v := 0) hx hb dX8_isDigit_16 (by decide) ?_
      obtain rfl := sm1 h
      exact KR H locs ls 17 dX8_isDigit_17 (Or.inl rfl) hP hD hS
    · replace h := it_f h c_2
      refine lv_iconst (v := 1) hx hb dX8_isDigit_12 (by decide) ?_
      refine lv_goto (tgt := 17) hx hb dX8_isDigit_13 (by decide) ?_
      obtain rfl := sm1 h
      exact KR H locs ls 17 dX8_isDigit_17 (Or.inr rfl) hP hD hS
set_option maxHeartbeats 4000000 in
set_option maxRecDepth 100000 in
theorem c_X8_isDigit (l : Launch) (G : GT) (sz : Nat) (a1 : Int32) (r : Int32) (h : f_X8_isDigit a1 = some r) : Met l yX8_isDigit wsX8_isDigit ({ frames := 0, cells := 0, slots := 0, locals := 0 } : Room) (va_Pc [.int a1] (pcW G [] sz)) (va_Qi (fun r9 (_ : Unit) => r9 = r) (fun _ t => atW G (va_A [] sz) [] t) (va_A [] sz)) 0 0 (va_A [] sz) := by
  refine Met.ofW (cc := cX8_isDigit) (maxL := 1) (ret := (some .boolean)) (by decide) rfl ?_
  intro p e s m args below meth c s₁ B hml hv
  obtain ⟨rfl, hsz, hP, hK, hD0⟩ := hv
  subst hsz
  have hD := hD0.self (sz := s.heap.size)
  generalize hAe : va_A [] s.heap.size = A at hD ⊢
  have hA : ∀ q : Nat, s.heap.size ≤ q → A q := fun q h => by rw [← hAe]; exact Or.inr h
  have hl := lv_entry ([.int a1]) (n := 1) (Nat.le_of_ble_eq_true rfl)
  rw [lg_entry_eq]
  refine k_X8_isDigit ⟨B.exec, B.bytes, hml, findClass_of_methodNamed B.named, atoms_spec (ws := wsX8_isDigit) B.pre⟩ G hK hA _ _ h ?_ _ _ _ hP hD va_S.rf hl
  intro H locs ls pc hd hbo hP hD hS
  exact W.zret B.exec B.bytes B.returns (by rcases hbo with e | e <;> subst e <;> rfl) (fun t ht hW => ⟨⟨r, (), rfl, rfl, by rw [ht]; exact hP, hD⟩, hS.F ht⟩) hS.2.2 hd B.notSynchronized
set_option maxRecDepth 20000 in
theorem wd_X8_takeEntry_1 : Cond.fieldLink RX8 14 "PermanentDesk$TextReader" "place" "I" ∈ wsX8_takeEntry := List.mem_of_getElem? (i := 1) (by decide +kernel)
set_option maxRecDepth 20000 in
theorem wi_X8_takeEntry_X8 : ∀ w ∈ u_ws RX8 TX8 5, w ∈ wsX8_takeEntry := by decide +kernel
set_option maxRecDepth 20000 in
theorem wd_X8_takeEntry_2 : Cond.fieldLink RX8 27 "PermanentDesk$TextReader" "value" "I" ∈ wsX8_takeEntry := List.mem_of_getElem? (i := 2) (by decide +kernel)
def f_X8_takeEntry_L1 (t_value : Int32) (a1_length : Int32) (a1_characters : Nat → Int32) : (Int32 × Int32) → Option ((Int32 × Int32) ⊕ ((Int32 × Int32) ⊕ (Int32 × Int32 × Int32)))
  | (x4, t_place) =>
    (f_X7_length a1_length).bind (fun r_16 =>
    if r_16 ≤ t_place then
      some (.inr (.inl (x4, t_place)))
    else
      (f_X7_at a1_length a1_characters t_place).bind (fun r_19 =>
      (f_X8_isDigit r_19).bind (fun r_21 =>
      if r_21 = 0 then
        some (.inr (.inl (x4, t_place)))
      else
        (f_X7_at a1_length a1_characters t_place).bind (fun r_24 =>
        pl ((((x4 * (10 : Int32)) + r_24) - (48 : Int32)) : Int32) (fun x5_26 =>
        if x4 = 0 then
          some (.inr (.inr ((0 : Int32), t_place, t_value)))
        else
          if x5_26 ≤ (20 : Int32) then
            pl ((t_place + (1 : Int32)) : Int32) (fun t_place_29 =>
            some (.inl (x5_26, t_place_29)))
          else
            some (.inr (.inr ((0 : Int32), t_place, t_value))))))))
def f_X8_takeEntry (t_place : Int32) (t_value : Int32) (a1_length : Int32) (a1_characters : Nat → Int32) : Option (Int32 × Int32 × Int32) :=
  (f_X7_at a1_length a1_characters t_place).bind (fun r_1 =>
  Option.bind (
    if r_1 = (45 : Int32) then
      some (1 : Int32)
    else
      some (0 : Int32)) (fun y_4 =>
  Option.bind (
    if y_4 = 0 then
      some t_place
    else
      pl ((t_place + (1 : Int32)) : Int32) (fun t_place_7 =>
      some t_place_7)) (fun t_place_6 =>
  (f_X7_at a1_length a1_characters t_place_6).bind (fun r_8 =>
  (f_X8_isDigit r_8).bind (fun r_10 =>
  if r_10 = 0 then
    some ((0 : Int32), t_place_6, t_value)
  else
    if y_4 = 0 then
      pl ((r_8 - (48 : Int32)) : Int32) (fun x4_14 =>
      pl ((t_place_6 + (1 : Int32)) : Int32) (fun t_place_15 =>
      (lpN (f_X8_takeEntry_L1 t_value a1_length a1_characters) FU (x4_14, t_place_15)).bind (fun z_32 => match z_32 with
      | .inl (x4_30, t_place_31) =>
        if y_4 = 0 then
          some ((1 : Int32), t_place_31, x4_30)
        else
          pl ((-x4_30) : Int32) (fun t_value_35 =>
          some ((1 : Int32), t_place_31, t_value_35))
      | .inr (r_36, t_place_37, t_value_38) => some (r_36, t_place_37, t_value_38))))
    else
      if r_8 = (48 : Int32) then
        some ((0 : Int32), t_place_6, t_value)
      else
        pl ((r_8 - (48 : Int32)) : Int32) (fun x4_40 =>
        pl ((t_place_6 + (1 : Int32)) : Int32) (fun t_place_41 =>
        (lpN (f_X8_takeEntry_L1 t_value a1_length a1_characters) FU (x4_40, t_place_41)).bind (fun z_44 => match z_44 with
        | .inl (x4_42, t_place_43) =>
          if y_4 = 0 then
            some ((1 : Int32), t_place_43, x4_42)
          else
            pl ((-x4_42) : Int32) (fun t_value_47 =>
            some ((1 : Int32), t_place_43, t_value_47))
        | .inr (r_48, t_place_49, t_value_50) => some (r_48, t_place_49, t_value_50)))))))))
set_option maxHeartbeats 4000000 in
set_option maxRecDepth 100000 in
theorem l_X8_takeEntry_1 {p : Program} {l : Launch} {e : Env} {s : State} {m : MethodId} {args : Array Value} {below : List Frame} {meth : Method} {c : Code} {Q : State → Prop} {A0 : Nat → Prop} {H0 : Heap} (C : CallFix p m c cX8_takeEntry 6 s args wsX8_takeEntry RX8) (G : GT) (hK : gK G s) (hA : ∀ q : Nat, H0.size ≤ q → A0 q) (q_t q_a1 q_a1_characters : Nat) (x2 : Int32) (t_row : Int32) (t_column : Int32) (t_rows : Int32) (t_value : Int32) (a1_length : Int32) (a1_characters : Nat → Int32) (z : ((Int32 × Int32) ⊕ (Int32 × Int32 × Int32))) (K : ∀ (E_x4 : Int32), ∀ (E_t_place : Int32), z = .inl (E_x4, E_t_place) → ∀ (H : Heap) (locs : List Loc) (ls : Array Slot), va_P G.1 vwCl [(q_t, .inr (7, [.int E_t_place, .int t_row, .int t_column, .int t_rows, .int t_value])), (q_a1, .inr (6, [.ref q_a1_characters, .int a1_length])), (q_a1_characters, .inl (G.2 3, 100, .inl a1_characters))] H → va_D A0 [(q_t, .inr (7, [.int E_t_place, .int t_row, .int t_column, .int t_rows, .int t_value])), (q_a1, .inr (6, [.ref q_a1_characters, .int a1_length])), (q_a1_characters, .inl (G.2 3, 100, .inl a1_characters))] → va_S A0 H0 H locs → lv_has ls 6 [(0, .ref q_t), (2, .int x2), (4, .int E_x4)] → W p l e ({ frames := 1, cells := 0, slots := 0, locals := 21 } : Room) s m args below meth c H locs 0 0 Q (F0 m 152 ls [])) (KR : ∀ (r : Int32) (o_t_place : Int32) (o_t_value : Int32), z = .inr (r, o_t_place, o_t_value) → ∀ (H : Heap) (locs : List Loc) (ls : Array Slot) (pc : Nat), decode cX8_takeEntry pc = .ok (.ireturn, 1) → (r = 0 ∨ r = 1) → va_P G.1 vwCl [(q_t, .inr (7, [.int o_t_place, .int t_row, .int t_column, .int t_rows, .int o_t_value])), (q_a1, .inr (6, [.ref q_a1_characters, .int a1_length])), (q_a1_characters, .inl (G.2 3, 100, .inl a1_characters))] H → va_D A0 [(q_t, .inr (7, [.int o_t_place, .int t_row, .int t_column, .int t_rows, .int o_t_value])), (q_a1, .inr (6, [.ref q_a1_characters, .int a1_length])), (q_a1_characters, .inl (G.2 3, 100, .inl a1_characters))] → va_S A0 H0 H locs → W p l e ({ frames := 1, cells := 0, slots := 0, locals := 21 } : Room) s m args below meth c H locs 0 0 Q (F0 m pc ls [.int r])) : ∀ (n : Nat) (x4 : Int32) (t_place : Int32), lpN (f_X8_takeEntry_L1 t_value a1_length a1_characters) n (x4, t_place) = some z → ∀ (H : Heap) (locs : List Loc) (ls : Array Slot), va_P G.1 vwCl [(q_t, .inr (7, [.int t_place, .int t_row, .int t_column, .int t_rows, .int t_value])), (q_a1, .inr (6, [.ref q_a1_characters, .int a1_length])), (q_a1_characters, .inl (G.2 3, 100, .inl a1_characters))] H → va_D A0 [(q_t, .inr (7, [.int t_place, .int t_row, .int t_column, .int t_rows, .int t_value])), (q_a1, .inr (6, [.ref q_a1_characters, .int a1_length])), (q_a1_characters, .inl (G.2 3, 100, .inl a1_characters))] → va_S A0 H0 H locs → lv_has ls 6 [(0, .ref q_t), (1, .ref q_a1), (2, .int x2), (4, .int x4)] → W p l e ({ frames := 1, cells := 0, slots := 0, locals := 21 } : Room) s m args below meth c H locs 0 0 Q (F0 m 77 ls []) := by
  obtain ⟨hx, hb, hml, hown, hts⟩ := C
  intro n
  induction n with
  | zero => intro x4 t_place h; exact absurd h (fun h => lp_0 h)
  | succ n ih =>
    intro x4 t_place h H locs ls hP hD hS hl
    obtain ⟨y, h, hk⟩ := lp_s h
    rw [f_X8_takeEntry_L1] at h
    refine lv_aload_n hx hb dX8_takeEntry_77 rfl (lv_at hl 0 rfl) ?_
    refine va_get (D := G.1) (ci := 7) (v := .int t_place) (C := RX8) (T := TX8) (N := 5) hx hb hts wi_X8_takeEntry_X8 hown hK hP 0 rfl rfl 0 (by decide) (hts _ wd_X8_takeEntry_1) (fun _ h9 => h9) rfl dX8_takeEntry_78 ?_
    refine lv_aload_n hx hb dX8_takeEntry_81 rfl (lv_at hl 1 rfl) ?_
    obtain ⟨r_16, hf_17, h⟩ := bd_ok h
    refine ck_Vi (rest := [.int t_place]) (wn := [(q_t, .inr (7, [.int t_place, .int t_row, .int t_column, .int t_rows, .int t_value])), (q_a1, .inr (6, [.ref q_a1_characters, .int a1_length])), (q_a1_characters, .inl (G.2 3, 100, .inl a1_characters))]) ⟨hx, hb, hml, hown, hts⟩ hK hP hD hS hA [1] [0, 2] [0, 2, 1] (c_X7_length l G q_a1 q_a1_characters _ a1_length _ hf_17) (cwV 0 hts gX8_takeEntry_X7_length rfl rfl rfl (by decide +kernel) ⟨Nat.le_of_ble_eq_true rfl, Nat.le_of_ble_eq_true rfl⟩) rfl rfl rfl rfl rfl rfl (by decide) rfl rfl rfl hl.1 rfl (Nat.le_of_ble_eq_true rfl) dX8_takeEntry_82 ⟨Nat.zero_le _, Nat.zero_le _⟩ (fun H locs hP hD hS => ?_)
    refine lv_icmp_ge (tgt := 152) hx hb dX8_takeEntry_85 (by decide) (fun c_18 => ?_) (fun c_18 => ?_)
    · replace h := it_t h c_18
      obtain rfl := sm1 h
      obtain rfl := sm1 hk
      exact K x4 t_place rfl H locs ls hP hD hS (lv_sub hl [0, 2, 3] rfl)
    · replace h := it_f h c_18
      refine lv_aload_n hx hb dX8_takeEntry_88 rfl (lv_at hl 1 rfl) ?_
      refine lv_aload_n hx hb dX8_takeEntry_89 rfl (lv_at hl 0 rfl) ?_
      refine va_get (D := G.1) (ci := 7) (v := .int t_place) (C := RX8) (T := TX8) (N := 5) hx hb hts wi_X8_takeEntry_X8 hown hK hP 0 rfl rfl 0 (by decide) (hts _ wd_X8_takeEntry_1) (fun _ h9 => h9) rfl dX8_takeEntry_90 ?_
      obtain ⟨r_19, hf_20, h⟩ := bd_ok h
      refine ck_Vi (rest := []) (wn := [(q_t, .inr (7, [.int t_place, .int t_row, .int t_column, .int t_rows, .int t_value])), (q_a1, .inr (6, [.ref q_a1_characters, .int a1_length])), (q_a1_characters, .inl (G.2 3, 100, .inl a1_characters))]) ⟨hx, hb, hml, hown, hts⟩ hK hP hD hS hA [1, 2] [0] [0, 1, 2] (c_X7_at l G q_a1 q_a1_characters _ a1_length a1_characters t_place _ hf_20) (cwV 1 hts gX8_takeEntry_X7_at rfl rfl rfl (by decide +kernel) ⟨Nat.le_of_ble_eq_true rfl, Nat.le_of_ble_eq_true rfl⟩) rfl rfl rfl rfl rfl rfl (by decide) rfl rfl rfl hl.1 rfl (Nat.le_of_ble_eq_true rfl) dX8_takeEntry_93 ⟨Nat.zero_le _, Nat.zero_le _⟩ (fun H locs hP hD hS => ?_)
      obtain ⟨r_21, hf_22, h⟩ := bd_ok h
      refine ck_Si (rest := []) (wn := [(q_t, .inr (7, [.int t_place, .int t_row, .int t_column, .int t_rows, .int t_value])), (q_a1, .inr (6, [.ref q_a1_characters, .int a1_length])), (q_a1_characters, .inl (G.2 3, 100, .inl a1_characters))]) ⟨hx, hb, hml, hown, hts⟩ hK hP hD hS hA [] [0, 1, 2] [0, 1, 2] (c_X8_isDigit l G _ r_19 _ hf_22) (cwS 1 hts gX8_takeEntry_X8_isDigit rfl rfl rfl (by decide +kernel) ⟨Nat.le_of_ble_eq_true rfl, Nat.le_of_ble_eq_true rfl⟩) rfl rfl rfl rfl (by decide) rfl rfl rfl hl.1 rfl (Nat.le_of_ble_eq_true rfl) dX8_takeEntry_96 ⟨Nat.zero_le _, Nat.zero_le _⟩ (fun H locs hP hD hS => ?_)
      refine lv_if_eq (tgt := 152) hx hb dX8_takeEntry_99 (by decide) (fun c_23 => ?_) (fun c_23 => ?_)
      · replace h := it_t h c_23
        obtain rfl := sm1 h
        obtain rfl := sm1 hk
        exact K x4 t_place rfl H locs ls hP hD hS (lv_sub hl [0, 2, 3] rfl)
      · replace h := it_f h c_23
        refine lv_iload hx hb dX8_takeEntry_102 (lv_at hl 3 rfl) ?_
        refine lv_bipush (v := 10) hx hb dX8_takeEntry_104 (by decide) ?_
        refine lv_imul hx hb dX8_takeEntry_106 ?_
        refine lv_aload_n hx hb dX8_takeEntry_107 rfl (lv_at hl 1 rfl) ?_
        refine lv_aload_n hx hb dX8_takeEntry_108 rfl (lv_at hl 0 rfl) ?_
        refine va_get (D := G.1) (ci := 7) (v := .int t_place) (C := RX8) (T := TX8) (N := 5) hx hb hts wi_X8_takeEntry_X8 hown hK hP 0 rfl rfl 0 (by decide) (hts _ wd_X8_takeEntry_1) (fun _ h9 => h9) rfl dX8_takeEntry_109 ?_
        obtain ⟨r_24, hf_25, h⟩ := bd_ok h
        refine ck_Vi (rest := [.int (x4 * (10 : Int32))]) (wn := [(q_t, .inr (7, [.int t_place, .int t_row, .int t_column, .int t_rows, .int t_value])), (q_a1, .inr (6, [.ref q_a1_characters, .int a1_length])), (q_a1_characters, .inl (G.2 3, 100, .inl a1_characters))]) ⟨hx, hb, hml, hown, hts⟩ hK hP hD hS hA [1, 2] [0] [0, 1, 2] (c_X7_at l G q_a1 q_a1_characters _ a1_length a1_characters t_place _ hf_25) (cwV 1 hts gX8_takeEntry_X7_at rfl rfl rfl (by decide +kernel) ⟨Nat.le_of_ble_eq_true rfl, Nat.le_of_ble_eq_true rfl⟩) rfl rfl rfl rfl rfl rfl (by decide) rfl rfl rfl hl.1 rfl (Nat.le_of_ble_eq_true rfl) dX8_takeEntry_112 ⟨Nat.zero_le _, Nat.zero_le _⟩ (fun H locs hP hD hS => ?_)
        refine lv_iadd hx hb dX8_takeEntry_115 ?_
        refine lv_bipush (v := 48) hx hb dX8_takeEntry_116 (by decide) ?_
        refine lv_isub hx hb dX8_takeEntry_118 ?_
        refine lv_topi (fun x5_26 ex5_26 => ?_)
        replace h := pl_v h ex5_26
        refine lv_istore (lv' := [(5, .int x5_26), (0, .ref q_t), (1, .ref q_a1), (2, .int x2), (4, .int x4)]) hx hb dX8_takeEntry_119 hl (by decide) rfl (fun ls hl => ?_)
        refine lv_iload hx hb dX8_takeEntry_121 (lv_at hl 4 rfl) ?_
        refine lv_if_eq (tgt := 133) hx hb dX8_takeEntry_123 (by decide) (fun c_27 => ?_) (fun c_27 => ?_)
        · replace h := it_t h c_27
          refine lv_iconst (v := 0) hx hb dX8_takeEntry_133 (by decide) ?_
          obtain rfl := sm1 h
          obtain rfl := sm1 hk
          exact KR (0 : Int32) t_place t_value rfl H locs ls 134 dX8_takeEntry_134 (Or.inl rfl) hP hD hS
        · replace h := it_f h c_27
          refine lv_iload hx hb dX8_takeEntry_126 (lv_at hl 0 rfl) ?_
          refine lv_bipush (v := 20) hx hb dX8_takeEntry_128 (by decide) ?_
          refine lv_icmp_le (tgt := 135) hx hb dX8_takeEntry_130 (by decide) (fun c_28 => ?_) (fun c_28 => ?_)
          · replace h := it_t h c_28
            refine lv_iload hx hb dX8_takeEntry_135 (lv_at hl 0 rfl) ?_
            refine lv_istore (lv' := [(4, .int x5_26), (5, .int x5_26), (0, .ref q_t), (1, .ref q_a1), (2, .int x2)]) hx hb dX8_takeEntry_137 hl (by decide) rfl (fun ls hl => ?_)
            refine lv_aload_n hx hb dX8_takeEntry_139 rfl (lv_at hl 2 rfl) ?_
            refine lv_dup hx hb dX8_takeEntry_140 rfl ?_
            refine va_get (D := G.1) (ci := 7) (v := .int t_place) (C := RX8) (T := TX8) (N := 5) hx hb hts wi_X8_takeEntry_X8 hown hK hP 0 rfl rfl 0 (by decide) (hts _ wd_X8_takeEntry_1) (fun _ h9 => h9) rfl dX8_takeEntry_141 ?_
            refine lv_iconst (v := 1) hx hb dX8_takeEntry_144 (by decide) ?_
            refine lv_iadd hx hb dX8_takeEntry_145 ?_
            refine lv_topi (fun t_place_29 et_place_29 => ?_)
            replace h := pl_v h et_place_29
            refine st_put (D := G.1) (ci := 7) (v := .int t_place_29) (ty := .int) (C := RX8) (T := TX8) (N := 5) (wn := [(q_t, .inr (7, [.int t_place_29, .int t_row, .int t_column, .int t_rows, .int t_value])), (q_a1, .inr (6, [.ref q_a1_characters, .int a1_length])), (q_a1_characters, .inl (G.2 3, 100, .inl a1_characters))]) hx hb hts wi_X8_takeEntry_X8 tyX8 tyX8_ok nmX8 hown hK hP hD hS 0 rfl rfl 0 (by decide) (hts _ wd_X8_takeEntry_1) (fun _ h9 => h9) rfl (by decide +kernel) rfl rfl (Nat.le_of_ble_eq_true rfl) dX8_takeEntry_146 rfl (fun H locs hP hD hS => ?_)
            refine lv_goto (tgt := 77) hx hb dX8_takeEntry_149 (by decide) ?_
            obtain rfl := sm1 h
            exact ih x5_26 t_place_29 hk H locs ls hP hD hS (lv_sub hl [2, 3, 4, 0] rfl)
          · replace h := it_f h c_28
            refine lv_iconst (v := 0) hx hb dX8_takeEntry_133 (by decide) ?_
            obtain rfl := sm1 h
            obtain rfl := sm1 hk
            exact KR (0 : Int32) t_place t_value rfl H locs ls 134 dX8_takeEntry_134 (Or.inl rfl) hP hD hS
set_option maxHeartbeats 4000000 in
set_option maxRecDepth 100000 in
theorem k_X8_takeEntry {p : Program} {l : Launch} {e : Env} {s : State} {m : MethodId} {args : Array Value} {below : List Frame} {meth : Method} {c : Code} {Q : State → Prop} {A0 : Nat → Prop} {H0 : Heap} (C : CallFix p m c cX8_takeEntry 6 s args wsX8_takeEntry RX8) (G : GT) (hK : gK G s) (hA : ∀ q : Nat, H0.size ≤ q → A0 q) (q_t q_a1 q_a1_characters : Nat) (t_place : Int32) (t_row : Int32) (t_column : Int32) (t_rows : Int32) (t_value : Int32) (a1_length : Int32) (a1_characters : Nat → Int32) (r : Int32) (o_t_place : Int32) (o_t_value : Int32) (h : f_X8_takeEntry t_place t_value a1_length a1_characters = some (r, o_t_place, o_t_value)) (KR : ∀ (H : Heap) (locs : List Loc) (ls : Array Slot) (pc : Nat), decode cX8_takeEntry pc = .ok (.ireturn, 1) → (r = 0 ∨ r = 1) → va_P G.1 vwCl [(q_t, .inr (7, [.int o_t_place, .int t_row, .int t_column, .int t_rows, .int o_t_value])), (q_a1, .inr (6, [.ref q_a1_characters, .int a1_length])), (q_a1_characters, .inl (G.2 3, 100, .inl a1_characters))] H → va_D A0 [(q_t, .inr (7, [.int o_t_place, .int t_row, .int t_column, .int t_rows, .int o_t_value])), (q_a1, .inr (6, [.ref q_a1_characters, .int a1_length])), (q_a1_characters, .inl (G.2 3, 100, .inl a1_characters))] → va_S A0 H0 H locs → W p l e ({ frames := 1, cells := 0, slots := 0, locals := 21 } : Room) s m args below meth c H locs 0 0 Q (F0 m pc ls [.int r])) : ∀ (H : Heap) (locs : List Loc) (ls : Array Slot), va_P G.1 vwCl [(q_t, .inr (7, [.int t_place, .int t_row, .int t_column, .int t_rows, .int t_value])), (q_a1, .inr (6, [.ref q_a1_characters, .int a1_length])), (q_a1_characters, .inl (G.2 3, 100, .inl a1_characters))] H → va_D A0 [(q_t, .inr (7, [.int t_place, .int t_row, .int t_column, .int t_rows, .int t_value])), (q_a1, .inr (6, [.ref q_a1_characters, .int a1_length])), (q_a1_characters, .inl (G.2 3, 100, .inl a1_characters))] → va_S A0 H0 H locs → lv_has ls 6 [(0, .ref q_t), (1, .ref q_a1)] → W p l e ({ frames := 1, cells := 0, slots := 0, locals := 21 } : Room) s m args below meth c H locs 0 0 Q (F0 m 0 ls []) := by
  obtain ⟨hx, hb, hml, hown, hts⟩ := C
  intro H locs ls hP hD hS hl
  rw [f_X8_takeEntry] at h
  refine lv_aload_n hx hb dX8_takeEntry_0 rfl (lv_at hl 1 rfl) ?_
  refine lv_aload_n hx hb dX8_takeEntry_1 rfl (lv_at hl 0 rfl) ?_
  refine va_get (D := G.1) (ci := 7) (v := .int t_place) (C := RX8) (T := TX8) (N := 5) hx hb hts wi_X8_takeEntry_X8 hown hK hP 0 rfl rfl 0 (by decide) (hts _ wd_X8_takeEntry_1) (fun _ h9 => h9) rfl dX8_takeEntry_2 ?_
  obtain ⟨r_1, hf_2, h⟩ := bd_ok h
  refine ck_Vi (rest := []) (wn := [(q_t, .inr (7, [.int t_place, .int t_row, .int t_column, .int t_rows, .int t_value])), (q_a1, .inr (6, [.ref q_a1_characters, .int a1_length])), (q_a1_characters, .inl (G.2 3, 100, .inl a1_characters))]) ⟨hx, hb, hml, hown, hts⟩ hK hP hD hS hA [1, 2] [0] [0, 1, 2] (c_X7_at l G q_a1 q_a1_characters _ a1_length a1_characters t_place _ hf_2) (cwV 1 hts gX8_takeEntry_X7_at rfl rfl rfl (by decide +kernel) ⟨Nat.le_of_ble_eq_true rfl, Nat.le_of_ble_eq_true rfl⟩) rfl rfl rfl rfl rfl rfl (by decide) rfl rfl rfl hl.1 rfl (Nat.le_of_ble_eq_true rfl) dX8_takeEntry_5 ⟨Nat.zero_le _, Nat.zero_le _⟩ (fun H locs hP hD hS => ?_)
  refine lv_bipush (v := 45) hx hb dX8_takeEntry_8 (by decide) ?_
  obtain ⟨y_4, hr, h⟩ := bd_ok h
  have J : ∀ (H : Heap) (locs : List Loc) (ls : Array Slot), va_P G.1 vwCl [(q_t, .inr (7, [.int t_place, .int t_row, .int t_column, .int t_rows, .int t_value])), (q_a1, .inr (6, [.ref q_a1_characters, .int a1_length])), (q_a1_characters, .inl (G.2 3, 100, .inl a1_characters))] H → va_D A0 [(q_t, .inr (7, [.int t_place, .int t_row, .int t_column, .int t_rows, .int t_value])), (q_a1, .inr (6, [.ref q_a1_characters, .int a1_length])), (q_a1_characters, .inl (G.2 3, 100, .inl a1_characters))] → va_S A0 H0 H locs → lv_has ls 6 [(0, .ref q_t), (1, .ref q_a1)] → W p l e ({ frames := 1, cells := 0, slots := 0, locals := 21 } : Room) s m args below meth c H locs 0 0 Q (F0 m 18 ls [.int y_4]) := by
    intro H locs ls hP hD hS hl
    refine lv_istore_n (lv' := [(2, .int y_4), (0, .ref q_t), (1, .ref q_a1)]) hx hb dX8_takeEntry_18 rfl hl (by decide) rfl (fun ls hl => ?_)
    refine lv_iload_n hx hb dX8_takeEntry_19 rfl (lv_at hl 0 rfl) ?_
    obtain ⟨t_place_6, hr, h⟩ := bd_ok h
    have J : ∀ (H : Heap) (locs : List Loc) (ls : Array Slot), va_P G.1 vwCl [(q_t, .inr (7, [.int t_place_6, .int t_row, .int t_column, .int t_rows, .int t_value])), (q_a1, .inr (6, [.ref q_a1_characters, .int a1_length])), (q_a1_characters, .inl (G.2 3, 100, .inl a1_characters))] H → va_D A0 [(q_t, .inr (7, [.int t_place_6, .int t_row, .int t_column, .int t_rows, .int t_value])), (q_a1, .inr (6, [.ref q_a1_characters, .int a1_length])), (q_a1_characters, .inl (G.2 3, 100, .inl a1_characters))] → va_S A0 H0 H locs → lv_has ls 6 [(0, .ref q_t), (1, .ref q_a1), (2, .int y_4)] → W p l e ({ frames := 1, cells := 0, slots := 0, locals := 21 } : Room) s m args below meth c H locs 0 0 Q (F0 m 33 ls []) := by
      intro H locs ls hP hD hS hl
      refine lv_aload_n hx hb dX8_takeEntry_33 rfl (lv_at hl 1 rfl) ?_
      refine lv_aload_n hx hb dX8_takeEntry_34 rfl (lv_at hl 0 rfl) ?_
      refine va_get (D := G.1) (ci := 7) (v := .int t_place_6) (C := RX8) (T := TX8) (N := 5) hx hb hts wi_X8_takeEntry_X8 hown hK hP 0 rfl rfl 0 (by decide) (hts _ wd_X8_takeEntry_1) (fun _ h9 => h9) rfl dX8_takeEntry_35 ?_
      obtain ⟨r_8, hf_9, h⟩ := bd_ok h
      refine ck_Vi (rest := []) (wn := [(q_t, .inr (7, [.int t_place_6, .int t_row, .int t_column, .int t_rows, .int t_value])), (q_a1, .inr (6, [.ref q_a1_characters, .int a1_length])), (q_a1_characters, .inl (G.2 3, 100, .inl a1_characters))]) ⟨hx, hb, hml, hown, hts⟩ hK hP hD hS hA [1, 2] [0] [0, 1, 2] (c_X7_at l G q_a1 q_a1_characters _ a1_length a1_characters t_place_6 _ hf_9) (cwV 1 hts gX8_takeEntry_X7_at rfl rfl rfl (by decide +kernel) ⟨Nat.le_of_ble_eq_true rfl, Nat.le_of_ble_eq_true rfl⟩) rfl rfl rfl rfl rfl rfl (by decide) rfl rfl rfl hl.1 rfl (Nat.le_of_ble_eq_true rfl) dX8_takeEntry_38 ⟨Nat.zero_le _, Nat.zero_le _⟩ (fun H locs hP hD hS => ?_)
      refine lv_istore_n (lv' := [(3, .int r_8), (0, .ref q_t), (1, .ref q_a1), (2, .int y_4)]) hx hb dX8_takeEntry_41 rfl hl (by decide) rfl (fun ls hl => ?_)
      refine lv_iload_n hx hb dX8_takeEntry_42 rfl (lv_at hl 0 rfl) ?_
      obtain ⟨r_10, hf_11, h⟩ := bd_ok h
      refine ck_Si (rest := []) (wn := [(q_t, .inr (7, [.int t_place_6, .int t_row, .int t_column, .int t_rows, .int t_value])), (q_a1, .inr (6, [.ref q_a1_characters, .int a1_length])), (q_a1_characters, .inl (G.2 3, 100, .inl a1_characters))]) ⟨hx, hb, hml, hown, hts⟩ hK hP hD hS hA [] [0, 1, 2] [0, 1, 2] (c_X8_isDigit l G _ r_8 _ hf_11) (cwS 1 hts gX8_takeEntry_X8_isDigit rfl rfl rfl (by decide +kernel) ⟨Nat.le_of_ble_eq_true rfl, Nat.le_of_ble_eq_true rfl⟩) rfl rfl rfl rfl (by decide) rfl rfl rfl hl.1 rfl (Nat.le_of_ble_eq_true rfl) dX8_takeEntry_43 ⟨Nat.zero_le _, Nat.zero_le _⟩ (fun H locs hP hD hS => ?_)
      refine lv_if_eq (tgt := 59) hx hb dX8_takeEntry_46 (by decide) (fun c_12 => ?_) (fun c_12 => ?_)
      · replace h := it_t h c_12
        refine lv_iconst (v := 0) hx hb dX8_takeEntry_59 (by decide) ?_
        obtain ⟨rfl, rfl, rfl⟩ := sm3 h
        exact KR H locs ls 60 dX8_takeEntry_60 (Or.inl rfl) hP hD hS
      · replace h := it_f h c_12
        refine lv_iload_n hx hb dX8_takeEntry_49 rfl (lv_at hl 3 rfl) ?_
        refine lv_if_eq (tgt := 61) hx hb dX8_takeEntry_50 (by decide) (fun c_13 => ?_) (fun c_13 => ?_)
        · replace h := it_t h c_13
          refine lv_iload_n hx hb dX8_takeEntry_61 rfl (lv_at hl 0 rfl) ?_
          refine lv_bipush (v := 48) hx hb dX8_takeEntry_62 (by decide) ?_
          refine lv_isub hx hb dX8_takeEntry_64 ?_
          refine lv_topi (fun x4_14 ex4_14 => ?_)
          replace h := pl_v h ex4_14
          refine lv_istore (lv' := [(4, .int x4_14), (3, .int r_8), (0, .ref q_t), (1, .ref q_a1), (2, .int y_4)]) hx hb dX8_takeEntry_65 hl (by decide) rfl (fun ls hl => ?_)
          refine lv_aload_n hx hb dX8_takeEntry_67 rfl (lv_at hl 2 rfl) ?_
          refine lv_dup hx hb dX8_takeEntry_68 rfl ?_
          refine va_get (D := G.1) (ci := 7) (v := .int t_place_6) (C := RX8) (T := TX8) (N := 5) hx hb hts wi_X8_takeEntry_X8 hown hK hP 0 rfl rfl 0 (by decide) (hts _ wd_X8_takeEntry_1) (fun _ h9 => h9) rfl dX8_takeEntry_69 ?_
          refine lv_iconst (v := 1) hx hb dX8_takeEntry_72 (by decide) ?_
          refine lv_iadd hx hb dX8_takeEntry_73 ?_
          refine lv_topi (fun t_place_15 et_place_15 => ?_)
          replace h := pl_v h et_place_15
          refine st_put (D := G.1) (ci := 7) (v := .int t_place_15) (ty := .int) (C := RX8) (T := TX8) (N := 5) (wn := [(q_t, .inr (7, [.int t_place_15, .int t_row, .int t_column, .int t_rows, .int t_value])), (q_a1, .inr (6, [.ref q_a1_characters, .int a1_length])), (q_a1_characters, .inl (G.2 3, 100, .inl a1_characters))]) hx hb hts wi_X8_takeEntry_X8 tyX8 tyX8_ok nmX8 hown hK hP hD hS 0 rfl rfl 0 (by decide) (hts _ wd_X8_takeEntry_1) (fun _ h9 => h9) rfl (by decide +kernel) rfl rfl (Nat.le_of_ble_eq_true rfl) dX8_takeEntry_74 rfl (fun H locs hP hD hS => ?_)
          obtain ⟨z_32, hz_33, h⟩ := bd_ok h
          refine l_X8_takeEntry_1 ⟨hx, hb, hml, hown, hts⟩ G hK hA q_t q_a1 q_a1_characters y_4 t_row t_column t_rows t_value a1_length a1_characters z_32 ?_ ?_ FU x4_14 t_place_15 hz_33 H locs ls hP hD hS (lv_sub hl [2, 3, 4, 0] rfl)
          · intro x4_30 t_place_31 hz H locs ls hP hD hS hl
            subst hz
            refine lv_aload_n hx hb dX8_takeEntry_152 rfl (lv_at hl 0 rfl) ?_
            refine lv_iload_n hx hb dX8_takeEntry_153 rfl (lv_at hl 1 rfl) ?_
            refine lv_if_eq (tgt := 163) hx hb dX8_takeEntry_154 (by decide) (fun c_34 => ?_) (fun c_34 => ?_)
            · replace h := it_t h c_34
              refine lv_iload hx hb dX8_takeEntry_163 (lv_at hl 2 rfl) ?_
              refine st_put (D := G.1) (ci := 7) (v := .int x4_30) (ty := .int) (C := RX8) (T := TX8) (N := 5) (wn := [(q_t, .inr (7, [.int t_place_31, .int t_row, .int t_column, .int t_rows, .int x4_30])), (q_a1, .inr (6, [.ref q_a1_characters, .int a1_length])), (q_a1_characters, .inl (G.2 3, 100, .inl a1_characters))]) hx hb hts wi_X8_takeEntry_X8 tyX8 tyX8_ok nmX8 hown hK hP hD hS 0 rfl rfl 4 (by decide) (hts _ wd_X8_takeEntry_2) (fun _ h9 => h9) rfl (by decide +kernel) rfl rfl (Nat.le_of_ble_eq_true rfl) dX8_takeEntry_165 rfl (fun H locs hP hD hS => ?_)
              refine lv_iconst (v := 1) hx hb dX8_takeEntry_168 (by decide) ?_
              obtain ⟨rfl, rfl, rfl⟩ := sm3 h
              exact KR H locs ls 169 dX8_takeEntry_169 (Or.inr rfl) hP hD hS
            · replace h := it_f h c_34
              refine lv_iload hx hb dX8_takeEntry_157 (lv_at hl 2 rfl) ?_
              refine lv_ineg hx hb dX8_takeEntry_159 ?_
              refine lv_goto (tgt := 165) hx hb dX8_takeEntry_160 (by decide) ?_
              refine lv_topi (fun t_value_35 et_value_35 => ?_)
              replace h := pl_v h et_value_35
              refine st_put (D := G.1) (ci := 7) (v := .int t_value_35) (ty := .int) (C := RX8) (T := TX8) (N := 5) (wn := [(q_t, .inr (7, [.int t_place_31, .int t_row, .int t_column, .int t_rows, .int t_value_35])), (q_a1, .inr (6, [.ref q_a1_characters, .int a1_length])), (q_a1_characters, .inl (G.2 3, 100, .inl a1_characters))]) hx hb hts wi_X8_takeEntry_X8 tyX8 tyX8_ok nmX8 hown hK hP hD hS 0 rfl rfl 4 (by decide) (hts _ wd_X8_takeEntry_2) (fun _ h9 => h9) rfl (by decide +kernel) rfl rfl (Nat.le_of_ble_eq_true rfl) dX8_takeEntry_165 rfl (fun H locs hP hD hS => ?_)
              refine lv_iconst (v := 1) hx hb dX8_takeEntry_168 (by decide) ?_
              obtain ⟨rfl, rfl, rfl⟩ := sm3 h
              exact KR H locs ls 169 dX8_takeEntry_169 (Or.inr rfl) hP hD hS
          · intro r_36 t_place_37 t_value_38 hz H locs ls pc hd hbo hP hD hS
            subst hz
            obtain ⟨rfl, rfl, rfl⟩ := sm3 h
            exact KR H locs ls pc hd hbo hP hD hS
        · replace h := it_f h c_13
          refine lv_iload_n hx hb dX8_takeEntry_53 rfl (lv_at hl 0 rfl) ?_
          refine lv_bipush (v := 48) hx hb dX8_takeEntry_54 (by decide) ?_
          refine lv_icmp_ne (tgt := 61) hx hb dX8_takeEntry_56 (by decide) (fun c_39 => ?_) (fun c_39 => ?_)
          · replace h := it_f h c_39
            refine lv_iload_n hx hb dX8_takeEntry_61 rfl (lv_at hl 0 rfl) ?_
            refine lv_bipush (v := 48) hx hb dX8_takeEntry_62 (by decide) ?_
            refine lv_isub hx hb dX8_takeEntry_64 ?_
            refine lv_topi (fun x4_40 ex4_40 => ?_)
            replace h := pl_v h ex4_40
            refine lv_istore (lv' := [(4, .int x4_40), (3, .int r_8), (0, .ref q_t), (1, .ref q_a1), (2, .int y_4)]) hx hb dX8_takeEntry_65 hl (by decide) rfl (fun ls hl => ?_)
            refine lv_aload_n hx hb dX8_takeEntry_67 rfl (lv_at hl 2 rfl) ?_
            refine lv_dup hx hb dX8_takeEntry_68 rfl ?_
            refine va_get (D := G.1) (ci := 7) (v := .int t_place_6) (C := RX8) (T := TX8) (N := 5) hx hb hts wi_X8_takeEntry_X8 hown hK hP 0 rfl rfl 0 (by decide) (hts _ wd_X8_takeEntry_1) (fun _ h9 => h9) rfl dX8_takeEntry_69 ?_
            refine lv_iconst (v := 1) hx hb dX8_takeEntry_72 (by decide) ?_
            refine lv_iadd hx hb dX8_takeEntry_73 ?_
            refine lv_topi (fun t_place_41 et_place_41 => ?_)
            replace h := pl_v h et_place_41
            refine st_put (D := G.1) (ci := 7) (v := .int t_place_41) (ty := .int) (C := RX8) (T := TX8) (N := 5) (wn := [(q_t, .inr (7, [.int t_place_41, .int t_row, .int t_column, .int t_rows, .int t_value])), (q_a1, .inr (6, [.ref q_a1_characters, .int a1_length])), (q_a1_characters, .inl (G.2 3, 100, .inl a1_characters))]) hx hb hts wi_X8_takeEntry_X8 tyX8 tyX8_ok nmX8 hown hK hP hD hS 0 rfl rfl 0 (by decide) (hts _ wd_X8_takeEntry_1) (fun _ h9 => h9) rfl (by decide +kernel) rfl rfl (Nat.le_of_ble_eq_true rfl) dX8_takeEntry_74 rfl (fun H locs hP hD hS => ?_)
            obtain ⟨z_44, hz_45, h⟩ := bd_ok h
            refine l_X8_takeEntry_1 ⟨hx, hb, hml, hown, hts⟩ G hK hA q_t q_a1 q_a1_characters y_4 t_row t_column t_rows t_value a1_length a1_characters z_44 ?_ ?_ FU x4_40 t_place_41 hz_45 H locs ls hP hD hS (lv_sub hl [2, 3, 4, 0] rfl)
            · intro x4_42 t_place_43 hz H locs ls hP hD hS hl
              subst hz
              refine lv_aload_n hx hb dX8_takeEntry_152 rfl (lv_at hl 0 rfl) ?_
              refine lv_iload_n hx hb dX8_takeEntry_153 rfl (lv_at hl 1 rfl) ?_
              refine lv_if_eq (tgt := 163) hx hb dX8_takeEntry_154 (by decide) (fun c_46 => ?_) (fun c_46 => ?_)
              · replace h := it_t h c_46
                refine lv_iload hx hb dX8_takeEntry_163 (lv_at hl 2 rfl) ?_
                refine st_put (D := G.1) (ci := 7) (v := .int x4_42) (ty := .int) (C := RX8) (T := TX8) (N := 5) (wn := [(q_t, .inr (7, [.int t_place_43, .int t_row, .int t_column, .int t_rows, .int x4_42])), (q_a1, .inr (6, [.ref q_a1_characters, .int a1_length])), (q_a1_characters, .inl (G.2 3, 100, .inl a1_characters))]) hx hb hts wi_X8_takeEntry_X8 tyX8 tyX8_ok nmX8 hown hK hP hD hS 0 rfl rfl 4 (by decide) (hts _ wd_X8_takeEntry_2) (fun _ h9 => h9) rfl (by decide +kernel) rfl rfl (Nat.le_of_ble_eq_true rfl) dX8_takeEntry_165 rfl (fun H locs hP hD hS => ?_)
                refine lv_iconst (v := 1) hx hb dX8_takeEntry_168 (by decide) ?_
                obtain ⟨rfl, rfl, rfl⟩ := sm3 h
                exact KR H locs ls 169 dX8_takeEntry_169 (Or.inr rfl) hP hD hS
              · replace h := it_f h c_46
                refine lv_iload hx hb dX8_takeEntry_157 (lv_at hl 2 rfl) ?_
                refine lv_ineg hx hb dX8_takeEntry_159 ?_
                refine lv_goto (tgt := 165) hx hb dX8_takeEntry_160 (by decide) ?_
                refine lv_topi (fun t_value_47 et_value_47 => ?_)
                replace h := pl_v h et_value_47
                refine st_put (D := G.1) (ci := 7) (v := .int t_value_47) (ty := .int) (C := RX8) (T := TX8) (N := 5) (wn := [(q_t, .inr (7, [.int t_place_43, .int t_row, .int t_column, .int t_rows, .int t_value_47])), (q_a1, .inr (6, [.ref q_a1_characters, .int a1_length])), (q_a1_characters, .inl (G.2 3, 100, .inl a1_characters))]) hx hb hts wi_X8_takeEntry_X8 tyX8 tyX8_ok nmX8 hown hK hP hD hS 0 rfl rfl 4 (by decide) (hts _ wd_X8_takeEntry_2) (fun _ h9 => h9) rfl (by decide +kernel) rfl rfl (Nat.le_of_ble_eq_true rfl) dX8_takeEntry_165 rfl (fun H locs hP hD hS => ?_)
                refine lv_iconst (v := 1) hx hb dX8_takeEntry_168 (by decide) ?_
                obtain ⟨rfl, rfl, rfl⟩ := sm3 h
                exact KR H locs ls 169 dX8_takeEntry_169 (Or.inr rfl) hP hD hS
            · intro r_48 t_place_49 t_value_50 hz H locs ls pc hd hbo hP hD hS
              subst hz
              obtain ⟨rfl, rfl, rfl⟩ := sm3 h
              exact KR H locs ls pc hd hbo hP hD hS
          · replace h := it_t h c_39
            refine lv_iconst (v := 0) hx hb dX8_takeEntry_59 (by decide) ?_
            obtain ⟨rfl, rfl, rfl⟩ := sm3 h
            exact KR H locs ls 60 dX8_takeEntry_60 (Or.inl rfl) hP hD hS
    replace h := hr
    clear hr
    refine lv_if_eq (tgt := 33) hx hb dX8_takeEntry_20 (by decide) (fun c_5 => ?_) (fun c_5 => ?_)
    · replace h := it_t h c_5
      obtain rfl := sm1 h
      exact J H locs ls hP hD hS (lv_sub hl [1, 2, 0] rfl)
    · replace h := it_f h c_5
      refine lv_aload_n hx hb dX8_takeEntry_23 rfl (lv_at hl 1 rfl) ?_
      refine lv_dup hx hb dX8_takeEntry_24 rfl ?_
      refine va_get (D := G.1) (ci := 7) (v := .int t_place) (C := RX8) (T := TX8) (N := 5) hx hb hts wi_X8_takeEntry_X8 hown hK hP 0 rfl rfl 0 (by decide) (hts _ wd_X8_takeEntry_1) (fun _ h9 => h9) rfl dX8_takeEntry_25 ?_
      refine lv_iconst (v := 1) hx hb dX8_takeEntry_28 (by decide) ?_
      refine lv_iadd hx hb dX8_takeEntry_29 ?_
      refine lv_topi (fun t_place_7 et_place_7 => ?_)
      replace h := pl_v h et_place_7
      refine st_put (D := G.1) (ci := 7) (v := .int t_place_7) (ty := .int) (C := RX8) (T := TX8) (N := 5) (wn := [(q_t, .inr (7, [.int t_place_7, .int t_row, .int t_column, .int t_rows, .int t_value])), (q_a1, .inr (6, [.ref q_a1_characters, .int a1_length])), (q_a1_characters, .inl (G.2 3, 100, .inl a1_characters))]) hx hb hts wi_X8_takeEntry_X8 tyX8 tyX8_ok nmX8 hown hK hP hD hS 0 rfl rfl 0 (by decide) (hts _ wd_X8_takeEntry_1) (fun _ h9 => h9) rfl (by decide +kernel) rfl rfl (Nat.le_of_ble_eq_true rfl) dX8_takeEntry_30 rfl (fun H locs hP hD hS => ?_)
      obtain rfl := sm1 h
      exact J H locs ls hP hD hS (lv_sub hl [1, 2, 0] rfl)
  replace h := hr
  clear hr
  refine lv_icmp_ne (tgt := 17) hx hb dX8_takeEntry_10 (by decide) (fun c_3 => ?_) (fun c_3 => ?_)
  · replace h := it_f h c_3
    refine lv_iconst (v := 0) hx hb dX8_takeEntry_17 (by decide) ?_
    obtain rfl := sm1 h
    exact J H locs ls hP hD hS (lv_sub hl [0, 1] rfl)
  · replace h := it_t h c_3
    refine lv_iconst (v := 1) hx hb dX8_takeEntry_13 (by decide) ?_
    refine lv_goto (tgt := 18) hx hb dX8_takeEntry_14 (by decide) ?_
    obtain rfl := sm1 h
    exact J H locs ls hP hD hS (lv_sub hl [0, 1] rfl)
set_option maxHeartbeats 4000000 in
set_option maxRecDepth 100000 in
theorem c_X8_takeEntry (l : Launch) (G : GT) (q_t q_a1 q_a1_characters : Nat) (sz : Nat) (t_place : Int32) (t_row : Int32) (t_column : Int32) (t_rows : Int32) (t_value : Int32) (a1_length : Int32) (a1_characters : Nat → Int32) (r : Int32) (o_t_place : Int32) (o_t_value : Int32) (h : f_X8_takeEntry t_place t_value a1_length a1_characters = some (r, o_t_place, o_t_value)) : Met l yX8_takeEntry wsX8_takeEntry ({ frames := 1, cells := 0, slots := 0, locals := 21 } : Room) (va_Pc [.ref q_t, .ref q_a1] (pcW G [(q_t, .inr (7, [.int t_place, .int t_row, .int t_column, .int t_rows, .int t_value])), (q_a1, .inr (6, [.ref q_a1_characters, .int a1_length])), (q_a1_characters, .inl (G.2 3, 100, .inl a1_characters))] sz)) (va_Qi (fun r9 (_ : Unit) => r9 = r) (fun _ t => atW G (va_A [(q_t, .inr (7, [.int t_place, .int t_row, .int t_column, .int t_rows, .int t_value])), (q_a1, .inr (6, [.ref q_a1_characters, .int a1_length])), (q_a1_characters, .inl (G.2 3, 100, .inl a1_characters))] sz) [(q_t, .inr (7, [.int o_t_place, .int t_row, .int t_column, .int t_rows, .int o_t_value])), (q_a1, .inr (6, [.ref q_a1_characters, .int a1_length])), (q_a1_characters, .inl (G.2 3, 100, .inl a1_characters))] t) (va_A [(q_t, .inr (7, [.int t_place, .int t_row, .int t_column, .int t_rows, .int t_value])), (q_a1, .inr (6, [.ref q_a1_characters, .int a1_length])), (q_a1_characters, .inl (G.2 3, 100, .inl a1_characters))] sz)) 0 0 (va_A [(q_t, .inr (7, [.int t_place, .int t_row, .int t_column, .int t_rows, .int t_value])), (q_a1, .inr (6, [.ref q_a1_characters, .int a1_length])), (q_a1_characters, .inl (G.2 3, 100, .inl a1_characters))] sz) := by
  refine Met.ofW (cc := cX8_takeEntry) (maxL := 6) (ret := (some .boolean)) (by decide) rfl ?_
  intro p e s m args below meth c s₁ B hml hv
  obtain ⟨rfl, hsz, hP, hK, hD0⟩ := hv
  subst hsz
  have hD := hD0.self (sz := s.heap.size)
  generalize hAe : va_A [(q_t, .inr (7, [.int t_place, .int t_row, .int t_column, .int t_rows, .int t_value])), (q_a1, .inr (6, [.ref q_a1_characters, .int a1_length])), (q_a1_characters, .inl (G.2 3, 100, .inl a1_characters))] s.heap.size = A at hD ⊢
  have hA : ∀ q : Nat, s.heap.size ≤ q → A q := fun q h => by rw [← hAe]; exact Or.inr h
  have hl := lv_entry ([.ref q_t, .ref q_a1]) (n := 6) (Nat.le_of_ble_eq_true rfl)
  rw [lg_entry_eq]
  refine k_X8_takeEntry ⟨B.exec, B.bytes, hml, findClass_of_methodNamed B.named, atoms_spec (ws := wsX8_takeEntry) B.pre⟩ G hK hA q_t q_a1 q_a1_characters _ _ _ _ _ _ _ _ _ _ h ?_ _ _ _ hP hD va_S.rf hl
  intro H locs ls pc hd hbo hP hD hS
  exact W.zret B.exec B.bytes B.returns (by rcases hbo with e | e <;> subst e <;> rfl) (fun t ht hW => ⟨⟨r, (), rfl, rfl, by rw [ht]; exact hP, hD⟩, hS.F ht⟩) hS.2.2 hd B.notSynchronized
set_option maxRecDepth 20000 in
theorem wd_X8_endWith_1 : Cond.fieldLink RX8 24 "PermanentDesk$TextReader" "rows" "I" ∈ wsX8_endWith := List.mem_of_getElem? (i := 1) (by decide +kernel)
set_option maxRecDepth 20000 in
theorem wi_X8_endWith_X8 : ∀ w ∈ u_ws RX8 TX8 5, w ∈ wsX8_endWith := by decide +kernel
set_option maxRecDepth 20000 in
theorem wd_X8_endWith_2 : Cond.fieldLink RX8 21 "PermanentDesk$TextReader" "column" "I" ∈ wsX8_endWith := List.mem_of_getElem? (i := 2) (by decide +kernel)
set_option maxRecDepth 20000 in
theorem wd_X8_endWith_4 : Cond.fieldLink RX8 14 "PermanentDesk$TextReader" "place" "I" ∈ wsX8_endWith := List.mem_of_getElem? (i := 4) (by decide +kernel)
set_option maxRecDepth 20000 in
theorem wd_X8_endWith_3 : Cond.fieldLink RX8 18 "PermanentDesk$TextReader" "row" "I" ∈ wsX8_endWith := List.mem_of_getElem? (i := 3) (by decide +kernel)
def f_X8_endWith (t_place : Int32) (t_row : Int32) (t_column : Int32) (t_rows : Int32) (a1_size : Int32) : Option (Int32 × Int32) :=
  Option.bind (
    if t_rows = 0 then
      some (t_column + (1 : Int32))
    else
      some t_rows) (fun y_2 =>
  if (t_column + (1 : Int32)) = y_2 then
    if (t_row + (1 : Int32)) = y_2 then
      (f_X4_resize a1_size y_2).bind (fun a1_size_5 =>
      some ((-1 : Int32), a1_size_5))
    else
      some (t_place, a1_size)
  else
    some (t_place, a1_size))
set_option maxHeartbeats 4000000 in
set_option maxRecDepth 100000 in
theorem k_X8_endWith {p : Program} {l : Launch} {e : Env} {s : State} {m : MethodId} {args : Array Value} {below : List Frame} {meth : Method} {c : Code} {Q : State → Prop} {A0 : Nat → Prop} {H0 : Heap} (C : CallFix p m c cX8_endWith 3 s args wsX8_endWith RX8) (G : GT) (hK : gK G s) (hA : ∀ q : Nat, H0.size ≤ q → A0 q) (q_t q_a1 q_a1_cells : Nat) (t_place : Int32) (t_row : Int32) (t_column : Int32) (t_rows : Int32) (t_value : Int32) (a1_size : Int32) (r : Int32) (o_a1_size : Int32) (h : f_X8_endWith t_place t_row t_column t_rows a1_size = some (r, o_a1_size)) (KR : ∀ (H : Heap) (locs : List Loc) (ls : Array Slot) (pc : Nat), decode cX8_endWith pc = .ok (.ireturn, 1) → va_P G.1 vwCl [(q_t, .inr (7, [.int t_place, .int t_row, .int t_column, .int t_rows, .int t_value])), (q_a1, .inr (3, [.ref q_a1_cells, .int o_a1_size]))] H → va_D A0 [(q_t, .inr (7, [.int t_place, .int t_row, .int t_column, .int t_rows, .int t_value])), (q_a1, .inr (3, [.ref q_a1_cells, .int o_a1_size]))] → va_S A0 H0 H locs → W p l e ({ frames := 1, cells := 0, slots := 0, locals := 21 } : Room) s m args below meth c H locs 0 0 Q (F0 m pc ls [.int r])) : ∀ (H : Heap) (locs : List Loc) (ls : Array Slot), va_P G.1 vwCl [(q_t, .inr (7, [.int t_place, .int t_row, .int t_column, .int t_rows, .int t_value])), (q_a1, .inr (3, [.ref q_a1_cells, .int a1_size]))] H → va_D A0 [(q_t, .inr (7, [.int t_place, .int t_row, .int t_column, .int t_rows, .int t_value])), (q_a1, .inr (3, [.ref q_a1_cells, .int a1_size]))] → va_S A0 H0 H locs → lv_has ls 3 [(0, .ref q_t), (1, .ref q_a1)] → W p l e ({ frames := 1, cells := 0, slots := 0, locals := 21 } : Room) s m args below meth c H locs 0 0 Q (F0 m 0 ls []) := by
  obtain ⟨hx, hb, hml, hown, hts⟩ := C
  intro H locs ls hP hD hS hl
  rw [f_X8_endWith] at h
  refine lv_aload_n hx hb dX8_endWith_0 rfl (lv_at hl 0 rfl) ?_
  refine va_get (D := G.1) (ci := 7) (v := .int t_rows) (C := RX8) (T := TX8) (N := 5) hx hb hts wi_X8_endWith_X8 hown hK hP 0 rfl rfl 3 (by decide) (hts _ wd_X8_endWith_1) (fun _ h9 => h9) rfl dX8_endWith_1 ?_
  obtain ⟨y_2, hr, h⟩ := bd_ok h
  have J : ∀ (H : Heap) (locs : List Loc) (ls : Array Slot), va_P G.1 vwCl [(q_t, .inr (7, [.int t_place, .int t_row, .int t_column, .int t_rows, .int t_value])), (q_a1, .inr (3, [.ref q_a1_cells, .int a1_size]))] H → va_D A0 [(q_t, .inr (7, [.int t_place, .int t_row, .int t_column, .int t_rows, .int t_value])), (q_a1, .inr (3, [.ref q_a1_cells, .int a1_size]))] → va_S A0 H0 H locs → lv_has ls 3 [(0, .ref q_t), (1, .ref q_a1)] → W p l e ({ frames := 1, cells := 0, slots := 0, locals := 21 } : Room) s m args below meth c H locs 0 0 Q (F0 m 20 ls [.int y_2]) := by
    intro H locs ls hP hD hS hl
    refine lv_istore_n (lv' := [(2, .int y_2), (0, .ref q_t), (1, .ref q_a1)]) hx hb dX8_endWith_20 rfl hl (by decide) rfl (fun ls hl => ?_)
    refine lv_aload_n hx hb dX8_endWith_21 rfl (lv_at hl 1 rfl) ?_
    refine va_get (D := G.1) (ci := 7) (v := .int t_column) (C := RX8) (T := TX8) (N := 5) hx hb hts wi_X8_endWith_X8 hown hK hP 0 rfl rfl 2 (by decide) (hts _ wd_X8_endWith_2) (fun _ h9 => h9) rfl dX8_endWith_22 ?_
    refine lv_iconst (v := 1) hx hb dX8_endWith_25 (by decide) ?_
    refine lv_iadd hx hb dX8_endWith_26 ?_
    refine lv_iload_n hx hb dX8_endWith_27 rfl (lv_at hl 0 rfl) ?_
    refine lv_icmp_ne (tgt := 41) hx hb dX8_endWith_28 (by decide) (fun c_3 => ?_) (fun c_3 => ?_)
    · replace h := it_f h c_3
      refine lv_aload_n hx hb dX8_endWith_41 rfl (lv_at hl 1 rfl) ?_
      refine va_get (D := G.1) (ci := 7) (v := .int t_place) (C := RX8) (T := TX8) (N := 5) hx hb hts wi_X8_endWith_X8 hown hK hP 0 rfl rfl 0 (by decide) (hts _ wd_X8_endWith_4) (fun _ h9 => h9) rfl dX8_endWith_42 ?_
      obtain ⟨rfl, rfl⟩ := sm2 h
      exact KR H locs ls 45 dX8_endWith_45 hP hD hS
    · replace h := it_t h c_3
      refine lv_aload_n hx hb dX8_endWith_31 rfl (lv_at hl 1 rfl) ?_
      refine va_get (D := G.1) (ci := 7) (v := .int t_row) (C := RX8) (T := TX8) (N := 5) hx hb hts wi_X8_endWith_X8 hown hK hP 0 rfl rfl 1 (by decide) (hts _ wd_X8_endWith_3) (fun _ h9 => h9) rfl dX8_endWith_32 ?_
      refine lv_iconst (v := 1) hx hb dX8_endWith_35 (by decide) ?_
      refine lv_iadd hx hb dX8_endWith_36 ?_
      refine lv_iload_n hx hb dX8_endWith_37 rfl (lv_at hl 0 rfl) ?_
      refine lv_icmp_eq (tgt := 46) hx hb dX8_endWith_38 (by decide) (fun c_4 => ?_) (fun c_4 => ?_)
      · replace h := it_t h c_4
        refine lv_aload_n hx hb dX8_endWith_46 rfl (lv_at hl 2 rfl) ?_
        refine lv_iload_n hx hb dX8_endWith_47 rfl (lv_at hl 0 rfl) ?_
        obtain ⟨a1_size_5, hf_6, h⟩ := bd_ok h
        refine ck_Vv (rest := []) (wn := [(q_t, .inr (7, [.int t_place, .int t_row, .int t_column, .int t_rows, .int t_value])), (q_a1, .inr (3, [.ref q_a1_cells, .int a1_size_5]))]) ⟨hx, hb, hml, hown, hts⟩ hK hP hD hS hA [1] [0] [0, 1] (c_X4_resize l G q_a1 q_a1_cells _ a1_size y_2 _ hf_6) (cwV 1 hts gX8_endWith_X4_resize rfl rfl rfl (by decide +kernel) ⟨Nat.le_of_ble_eq_true rfl, Nat.le_of_ble_eq_true rfl⟩) rfl rfl rfl rfl rfl rfl (by decide) rfl rfl rfl hl.1 rfl (Nat.le_of_ble_eq_true rfl) dX8_endWith_48 ⟨Nat.zero_le _, Nat.zero_le _⟩ (fun H locs hP hD hS => ?_)
        refine lv_iconst (v := -1) hx hb dX8_endWith_51 (by decide) ?_
        obtain ⟨rfl, rfl⟩ := sm2 h
        exact KR H locs ls 52 dX8_endWith_52 hP hD hS
      · replace h := it_f h c_4
        refine lv_aload_n hx hb dX8_endWith_41 rfl (lv_at hl 1 rfl) ?_
        refine va_get (D := G.1) (ci := 7) (v := .int t_place) (C := RX8) (T := TX8) (N := 5) hx hb hts wi_X8_endWith_X8 hown hK hP 0 rfl rfl 0 (by decide) (hts _ wd_X8_endWith_4) (fun _ h9 => h9) rfl dX8_endWith_42 ?_
        obtain ⟨rfl, rfl⟩ := sm2 h
        exact KR H locs ls 45 dX8_endWith_45 hP hD hS
  replace h := hr
  clear hr
  refine lv_if_ne (tgt := 16) hx hb dX8_endWith_4 (by decide) (fun c_1 => ?_) (fun c_1 => ?_)
  · replace h := it_f h c_1
    refine lv_aload_n hx hb dX8_endWith_16 rfl (lv_at hl 0 rfl) ?_
    refine va_get (D := G.1) (ci := 7) (v := .int t_rows) (C := RX8) (T := TX8) (N := 5) hx hb hts wi_X8_endWith_X8 hown hK hP 0 rfl rfl 3 (by decide) (hts _ wd_X8_endWith_1) (fun _ h9 => h9) rfl dX8_endWith_17 ?_
    obtain rfl := sm1 h
    exact J H locs ls hP hD hS (lv_sub hl [0, 1] rfl)
  · replace h := it_t h c_1
    refine lv_aload_n hx hb dX8_endWith_7 rfl (lv_at hl 0 rfl) ?_
    refine va_get (D := G.1) (ci := 7) (v := .int t_column) (C := RX8) (T := TX8) (N := 5) hx hb hts wi_X8_endWith_X8 hown hK hP 0 rfl rfl 2 (by decide) (hts _ wd_X8_endWith_2) (fun _ h9 => h9) rfl dX8_endWith_8 ?_
    refine lv_iconst (v := 1) hx hb dX8_endWith_11 (by decide) ?_
    refine lv_iadd hx hb dX8_endWith_12 ?_
    refine lv_goto (tgt := 20) hx hb dX8_endWith_13 (by decide) ?_
    obtain rfl := sm1 h
    exact J H locs ls hP hD hS (lv_sub hl [0, 1] rfl)
set_option maxHeartbeats 4000000 in
set_option maxRecDepth 100000 in
theorem c_X8_endWith (l : Launch) (G : GT) (q_t q_a1 q_a1_cells : Nat) (sz : Nat) (t_place : Int32) (t_row : Int32) (t_column : Int32) (t_rows : Int32) (t_value : Int32) (a1_size : Int32) (r : Int32) (o_a1_size : Int32) (h : f_X8_endWith t_place t_row t_column t_rows a1_size = some (r, o_a1_size)) : Met l yX8_endWith wsX8_endWith ({ frames := 1, cells := 0, slots := 0, locals := 21 } : Room) (va_Pc [.ref q_t, .ref q_a1] (pcW G [(q_t, .inr (7, [.int t_place, .int t_row, .int t_column, .int t_rows, .int t_value])), (q_a1, .inr (3, [.ref q_a1_cells, .int a1_size]))] sz)) (va_Qi (fun r9 (_ : Unit) => r9 = r) (fun _ t => atW G (va_A [(q_t, .inr (7, [.int t_place, .int t_row, .int t_column, .int t_rows, .int t_value])), (q_a1, .inr (3, [.ref q_a1_cells, .int a1_size]))] sz) [(q_t, .inr (7, [.int t_place, .int t_row, .int t_column, .int t_rows, .int t_value])), (q_a1, .inr (3, [.ref q_a1_cells, .int o_a1_size]))] t) (va_A [(q_t, .inr (7, [.int t_place, .int t_row, .int t_column, .int t_rows, .int t_value])), (q_a1, .inr (3, [.ref q_a1_cells, .int a1_size]))] sz)) 0 0 (va_A [(q_t, .inr (7, [.int t_place, .int t_row, .int t_column, .int t_rows, .int t_value])), (q_a1, .inr (3, [.ref q_a1_cells, .int a1_size]))] sz) := by
  refine Met.ofW (cc := cX8_endWith) (maxL := 3) (ret := (some .int)) (by decide) rfl ?_
  intro p e s m args below meth c s₁ B hml hv
  obtain ⟨rfl, hsz, hP, hK, hD0⟩ := hv
  subst hsz
  have hD := hD0.self (sz := s.heap.size)
  generalize hAe : va_A [(q_t, .inr (7, [.int t_place, .int t_row, .int t_column, .int t_rows, .int t_value])), (q_a1, .inr (3, [.ref q_a1_cells, .int a1_size]))] s.heap.size = A at hD ⊢
  have hA : ∀ q : Nat, s.heap.size ≤ q → A q := fun q h => by rw [← hAe]; exact Or.inr h
  have hl := lv_entry ([.ref q_t, .ref q_a1]) (n := 3) (Nat.le_of_ble_eq_true rfl)
  rw [lg_entry_eq]
  refine k_X8_endWith ⟨B.exec, B.bytes, hml, findClass_of_methodNamed B.named, atoms_spec (ws := wsX8_endWith) B.pre⟩ G hK hA q_t q_a1 q_a1_cells _ _ _ _ _ _ _ _ h ?_ _ _ _ hP hD va_S.rf hl
  intro H locs ls pc hd hP hD hS
  exact W.iret B.exec B.bytes B.returns (fun t ht hW => ⟨⟨r, (), rfl, rfl, by rw [ht]; exact hP, hD⟩, hS.F ht⟩) hS.2.2 hd B.notSynchronized
set_option maxRecDepth 20000 in
theorem wd_X8_takeComma_1 : Cond.fieldLink RX8 24 "PermanentDesk$TextReader" "rows" "I" ∈ wsX8_takeComma := List.mem_of_getElem? (i := 1) (by decide +kernel)
set_option maxRecDepth 20000 in
theorem wi_X8_takeComma_X8 : ∀ w ∈ u_ws RX8 TX8 5, w ∈ wsX8_takeComma := by decide +kernel
set_option maxRecDepth 20000 in
theorem wd_X8_takeComma_2 : Cond.fieldLink RX8 21 "PermanentDesk$TextReader" "column" "I" ∈ wsX8_takeComma := List.mem_of_getElem? (i := 2) (by decide +kernel)
set_option maxRecDepth 20000 in
theorem wd_X8_takeComma_3 : Cond.fieldLink RX8 14 "PermanentDesk$TextReader" "place" "I" ∈ wsX8_takeComma := List.mem_of_getElem? (i := 3) (by decide +kernel)
def f_X8_takeComma (t_place : Int32) (t_column : Int32) (t_rows : Int32) : Option (Int32 × Int32 × Int32) :=
  Option.bind (
    if t_rows = 0 then
      some (7 : Int32)
    else
      some t_rows) (fun y_2 =>
  if (t_column + (1 : Int32)) < y_2 then
    pl ((t_column + (1 : Int32)) : Int32) (fun t_column_4 =>
    pl ((t_place + (1 : Int32)) : Int32) (fun t_place_5 =>
    some ((1 : Int32), t_place_5, t_column_4)))
  else
    some ((0 : Int32), t_place, t_column))
set_option maxHeartbeats 4000000 in
set_option maxRecDepth 100000 in
theorem k_X8_takeComma {p : Program} {l : Launch} {e : Env} {s : State} {m : MethodId} {args : Array Value} {below : List Frame} {meth : Method} {c : Code} {Q : State → Prop} {A0 : Nat → Prop} {H0 : Heap} (C : CallFix p m c cX8_takeComma 2 s args wsX8_takeComma RX8) (G : GT) (hK : gK G s) (hA : ∀ q : Nat, H0.size ≤ q → A0 q) (q_t : Nat) (t_place : Int32) (t_row : Int32) (t_column : Int32) (t_rows : Int32) (t_value : Int32) (r : Int32) (o_t_place : Int32) (o_t_column : Int32) (h : f_X8_takeComma t_place t_column t_rows = some (r, o_t_place, o_t_column)) (KR : ∀ (H : Heap) (locs : List Loc) (ls : Array Slot) (pc : Nat), decode cX8_takeComma pc = .ok (.ireturn, 1) → (r = 0 ∨ r = 1) → va_P G.1 vwCl [(q_t, .inr (7, [.int o_t_place, .int t_row, .int o_t_column, .int t_rows, .int t_value]))] H → va_D A0 [(q_t, .inr (7, [.int o_t_place, .int t_row, .int o_t_column, .int t_rows, .int t_value]))] → va_S A0 H0 H locs → W p l e ({ frames := 0, cells := 0, slots := 0, locals := 0 } : Room) s m args below meth c H locs 0 0 Q (F0 m pc ls [.int r])) : ∀ (H : Heap) (locs : List Loc) (ls : Array Slot), va_P G.1 vwCl [(q_t, .inr (7, [.int t_place, .int t_row, .int t_column, .int t_rows, .int t_value]))] H → va_D A0 [(q_t, .inr (7, [.int t_place, .int t_row, .int t_column, .int t_rows, .int t_value]))] → va_S A0 H0 H locs → lv_has ls 2 [(0, .ref q_t)] → W p l e ({ frames := 0, cells := 0, slots := 0, locals := 0 } : Room) s m args below meth c H locs 0 0 Q (F0 m 0 ls []) := by
  obtain ⟨hx, hb, hml, hown, hts⟩ := C
  intro H locs ls hP hD hS hl
  rw [f_X8_takeComma] at h
  refine lv_aload_n hx hb dX8_takeComma_0 rfl (lv_at hl 0 rfl) ?_
  refine va_get (D := G.1) (ci := 7) (v := .int t_rows) (C := RX8) (T := TX8) (N := 5) hx hb hts wi_X8_takeComma_X8 hown hK hP 0 rfl rfl 3 (by decide) (hts _ wd_X8_takeComma_1) (fun _ h9 => h9) rfl dX8_takeComma_1 ?_
  obtain ⟨y_2, hr, h⟩ := bd_ok h
  have J : ∀ (H : Heap) (locs : List Loc) (ls : Array Slot), va_P G.1 vwCl [(q_t, .inr (7, [.int t_place, .int t_row, .int t_column, .int t_rows, .int t_value]))] H → va_D A0 [(q_t, .inr (7, [.int t_place, .int t_row, .int t_column, .int t_rows, .int t_value]))] → va_S A0 H0 H locs → lv_has ls 2 [(0, .ref q_t)] → W p l e ({ frames := 0, cells := 0, slots := 0, locals := 0 } : Room) s m args below meth c H locs 0 0 Q (F0 m 16 ls [.int y_2]) := by
    intro H locs ls hP hD hS hl
    refine lv_istore_n (lv' := [(1, .int y_2), (0, .ref q_t)]) hx hb dX8_takeComma_16 rfl hl (by decide) rfl (fun ls hl => ?_)
    refine lv_aload_n hx hb dX8_takeComma_17 rfl (lv_at hl 1 rfl) ?_
    refine va_get (D := G.1) (ci := 7) (v := .int t_column) (C := RX8) (T := TX8) (N := 5) hx hb hts wi_X8_takeComma_X8 hown hK hP 0 rfl rfl 2 (by decide) (hts _ wd_X8_takeComma_2) (fun _ h9 => h9) rfl dX8_takeComma_18 ?_
    refine lv_iconst (v := 1) hx hb dX8_takeComma_21 (by decide) ?_
    refine lv_iadd hx hb dX8_takeComma_22 ?_
    refine lv_iload_n hx hb dX8_takeComma_23 rfl (lv_at hl 0 rfl) ?_
    refine lv_icmp_lt (tgt := 29) hx hb dX8_takeComma_24 (by decide) (fun c_3 => ?_) (fun c_3 => ?_)
    · replace h := it_t h c_3
      refine lv_aload_n hx hb dX8_takeComma_29 rfl (lv_at hl 1 rfl) ?_
      refine lv_dup hx hb dX8_takeComma_30 rfl ?_
      refine va_get (D := G.1) (ci := 7) (v := .int t_column) (C := RX8) (T := TX8) (N := 5) hx hb hts wi_X8_takeComma_X8 hown hK hP 0 rfl rfl 2 (by decide) (hts _ wd_X8_takeComma_2) (fun _ h9 => h9) rfl dX8_takeComma_31 ?_
      refine lv_iconst (v := 1) hx hb dX8_takeComma_34 (by decide) ?_
      refine lv_iadd hx hb dX8_takeComma_35 ?_
      refine lv_topi (fun t_column_4 et_column_4 => ?_)
      replace h := pl_v h et_column_4
      refine st_put (D := G.1) (ci := 7) (v := .int t_column_4) (ty := .int) (C := RX8) (T := TX8) (N := 5) (wn := [(q_t, .inr (7, [.int t_place, .int t_row, .int t_column_4, .int t_rows, .int t_value]))]) hx hb hts wi_X8_takeComma_X8 tyX8 tyX8_ok nmX8 hown hK hP hD hS 0 rfl rfl 2 (by decide) (hts _ wd_X8_takeComma_2) (fun _ h9 => h9) rfl (by decide +kernel) rfl rfl (Nat.le_of_ble_eq_true rfl) dX8_takeComma_36 rfl (fun H locs hP hD hS => ?_)
      refine lv_aload_n hx hb dX8_takeComma_39 rfl (lv_at hl 1 rfl) ?_
      refine lv_dup hx hb dX8_takeComma_40 rfl ?_
      refine va_get (D := G.1) (ci := 7) (v := .int t_place) (C := RX8) (T := TX8) (N := 5) hx hb hts wi_X8_takeComma_X8 hown hK hP 0 rfl rfl 0 (by decide) (hts _ wd_X8_takeComma_3) (fun _ h9 => h9) rfl dX8_takeComma_41 ?_
      refine lv_iconst (v := 1) hx hb dX8_takeComma_44 (by decide) ?_
      refine lv_iadd hx hb dX8_takeComma_45 ?_
      refine lv_topi (fun t_place_5 et_place_5 => ?_)
      replace h := pl_v h et_place_5
      refine st_put (D := G.1) (ci := 7) (v := .int t_place_5) (ty := .int) (C := RX8) (T := TX8) (N := 5) (wn := [(q_t, .inr (7, [.int t_place_5, .int t_row, .int t_column_4, .int t_rows, .int t_value]))]) hx hb hts wi_X8_takeComma_X8 tyX8 tyX8_ok nmX8 hown hK hP hD hS 0 rfl rfl 0 (by decide) (hts _ wd_X8_takeComma_3) (fun _ h9 => h9) rfl (by decide +kernel) rfl rfl (Nat.le_of_ble_eq_true rfl) dX8_takeComma_46 rfl (fun H locs hP hD hS => ?_)
      refine lv_iconst (v := 1) hx hb dX8_takeComma_49 (by decide) ?_
      obtain ⟨rfl, rfl, rfl⟩ := sm3 h
      exact KR H locs ls 50 dX8_takeComma_50 (Or.inr rfl) hP hD hS
    · replace h := it_f h c_3
      refine lv_iconst (v := 0) hx hb dX8_takeComma_27 (by decide) ?_
      obtain ⟨rfl, rfl, rfl⟩ := sm3 h
      exact KR H locs ls 28 dX8_takeComma_28 (Or.inl rfl) hP hD hS
  replace h := hr
  clear hr
  refine lv_if_ne (tgt := 12) hx hb dX8_takeComma_4 (by decide) (fun c_1 => ?_) (fun c_1 => ?_)
  · replace h := it_f h c_1
    refine lv_aload_n hx hb dX8_takeComma_12 rfl (lv_at hl 0 rfl) ?_
    refine va_get (D := G.1) (ci := 7) (v := .int t_rows) (C := RX8) (T := TX8) (N := 5) hx hb hts wi_X8_takeComma_X8 hown hK hP 0 rfl rfl 3 (by decide) (hts _ wd_X8_takeComma_1) (fun _ h9 => h9) rfl dX8_takeComma_13 ?_
    obtain rfl := sm1 h
    exact J H locs ls hP hD hS (lv_sub hl [0] rfl)
  · replace h := it_t h c_1
    refine lv_bipush (v := 7) hx hb dX8_takeComma_7 (by decide) ?_
    refine lv_goto (tgt := 16) hx hb dX8_takeComma_9 (by decide) ?_
    obtain rfl := sm1 h
    exact J H locs ls hP hD hS (lv_sub hl [0] rfl)
set_option maxHeartbeats 4000000 in
set_option maxRecDepth 100000 in
theorem c_X8_takeComma (l : Launch) (G : GT) (q_t : Nat) (sz : Nat) (t_place : Int32) (t_row : Int32) (t_column : Int32) (t_rows : Int32) (t_value : Int32) (r : Int32) (o_t_place : Int32) (o_t_column : Int32) (h : f_X8_takeComma t_place t_column t_rows = some (r, o_t_place, o_t_column)) : Met l yX8_takeComma wsX8_takeComma ({ frames := 0, cells := 0, slots := 0, locals := 0 } : Room) (va_Pc [.ref q_t] (pcW G [(q_t, .inr (7, [.int t_place, .int t_row, .int t_column, .int t_rows, .int t_value]))] sz)) (va_Qi (fun r9 (_ : Unit) => r9 = r) (fun _ t => atW G (va_A [(q_t, .inr (7, [.int t_place, .int t_row, .int t_column, .int t_rows, .int t_value]))] sz) [(q_t, .inr (7, [.int o_t_place, .int t_row, .int o_t_column, .int t_rows, .int t_value]))] t) (va_A [(q_t, .inr (7, [.int t_place, .int t_row, .int t_column, .int t_rows, .int t_value]))] sz)) 0 0 (va_A [(q_t, .inr (7, [.int t_place, .int t_row, .int t_column, .int t_rows, .int t_value]))] sz) := by
  refine Met.ofW (cc := cX8_takeComma) (maxL := 2) (ret := (some .boolean)) (by decide) rfl ?_
  intro p e s m args below meth c s₁ B hml hv
  obtain ⟨rfl, hsz, hP, hK, hD0⟩ := hv
  subst hsz
  have hD := hD0.self (sz := s.heap.size)
  generalize hAe : va_A [(q_t, .inr (7, [.int t_place, .int t_row, .int t_column, .int t_rows, .int t_value]))] s.heap.size = A at hD ⊢
  have hA : ∀ q : Nat, s.heap.size ≤ q → A q := fun q h => by rw [← hAe]; exact Or.inr h
  have hl := lv_entry ([.ref q_t]) (n := 2) (Nat.le_of_ble_eq_true rfl)
  rw [lg_entry_eq]
  refine k_X8_takeComma ⟨B.exec, B.bytes, hml, findClass_of_methodNamed B.named, atoms_spec (ws := wsX8_takeComma) B.pre⟩ G hK hA q_t _ _ _ _ _ _ _ _ h ?_ _ _ _ hP hD va_S.rf hl
  intro H locs ls pc hd hbo hP hD hS
  exact W.zret B.exec B.bytes B.returns (by rcases hbo with e | e <;> subst e <;> rfl) (fun t ht hW => ⟨⟨r, (), rfl, rfl, by rw [ht]; exact hP, hD⟩, hS.F ht⟩) hS.2.2 hd B.notSynchronized
set_option maxRecDepth 20000 in
theorem wd_X8_takeSlash_1 : Cond.fieldLink RX8 24 "PermanentDesk$TextReader" "rows" "I" ∈ wsX8_takeSlash := List.mem_of_getElem? (i := 1) (by decide +kernel)
set_option maxRecDepth 20000 in
theorem wi_X8_takeSlash_X8 : ∀ w ∈ u_ws RX8 TX8 5, w ∈ wsX8_takeSlash := by decide +kernel
set_option maxRecDepth 20000 in
theorem wd_X8_takeSlash_2 : Cond.fieldLink RX8 21 "PermanentDesk$TextReader" "column" "I" ∈ wsX8_takeSlash := List.mem_of_getElem? (i := 2) (by decide +kernel)
set_option maxRecDepth 20000 in
theorem wd_X8_takeSlash_3 : Cond.fieldLink RX8 18 "PermanentDesk$TextReader" "row" "I" ∈ wsX8_takeSlash := List.mem_of_getElem? (i := 3) (by decide +kernel)
set_option maxRecDepth 20000 in
theorem wd_X8_takeSlash_4 : Cond.fieldLink RX8 14 "PermanentDesk$TextReader" "place" "I" ∈ wsX8_takeSlash := List.mem_of_getElem? (i := 4) (by decide +kernel)
def f_X8_takeSlash (t_place : Int32) (t_row : Int32) (t_column : Int32) (t_rows : Int32) : Option (Int32 × Int32 × Int32 × Int32 × Int32) :=
  Option.bind (
    if t_rows = 0 then
      some (t_column + (1 : Int32))
    else
      some t_rows) (fun y_2 =>
  if (t_column + (1 : Int32)) = y_2 then
    if (t_row + (1 : Int32)) < y_2 then
      pl ((t_row + (1 : Int32)) : Int32) (fun t_row_5 =>
      pl ((t_place + (1 : Int32)) : Int32) (fun t_place_6 =>
      some ((1 : Int32), t_place_6, t_row_5, (0 : Int32), y_2)))
    else
      some ((0 : Int32), t_place, t_row, t_column, t_rows)
  else
    some ((0 : Int32), t_place, t_row, t_column, t_rows))
set_option maxHeartbeats 4000000 in
set_option maxRecDepth 100000 in
theorem k_X8_takeSlash {p : Program} {l : Launch} {e : Env} {s : State} {m : MethodId} {args : Array Value} {below : List Frame} {meth : Method} {c : Code} {Q : State → Prop} {A0 : Nat → Prop} {H0 : Heap} (C : CallFix p m c cX8_takeSlash 2 s args wsX8_takeSlash RX8) (G : GT) (hK : gK G s) (hA : ∀ q : Nat, H0.size ≤ q → A0 q) (q_t : Nat) (t_place : Int32) (t_row : Int32) (t_column : Int32) (t_rows : Int32) (t_value : Int32) (r : Int32) (o_t_place : Int32) (o_t_row : Int32) (o_t_column : Int32) (o_t_rows : Int32) (h : f_X8_takeSlash t_place t_row t_column t_rows = some (r, o_t_place, o_t_row, o_t_column, o_t_rows)) (KR : ∀ (H : Heap) (locs : List Loc) (ls : Array Slot) (pc : Nat), decode cX8_takeSlash pc = .ok (.ireturn, 1) → (r = 0 ∨ r = 1) → va_P G.1 vwCl [(q_t, .inr (7, [.int o_t_place, .int o_t_row, .int o_t_column, .int o_t_rows, .int t_value]))] H → va_D A0 [(q_t, .inr (7, [.int o_t_place, .int o_t_row, .int o_t_column, .int o_t_rows, .int t_value]))] → va_S A0 H0 H locs → W p l e ({ frames := 0, cells := 0, slots := 0, locals := 0 } : Room) s m args below meth c H locs 0 0 Q (F0 m pc ls [.int r])) : ∀ (H : Heap) (locs : List Loc) (ls : Array Slot), va_P G.1 vwCl [(q_t, .inr (7, [.int t_place, .int t_row, .int t_column, .int t_rows, .int t_value]))] H → va_D A0 [(q_t, .inr (7, [.int t_place, .int t_row, .int t_column, .int t_rows, .int t_value]))] → va_S A0 H0 H locs → lv_has ls 2 [(0, .ref q_t)] → W p l e ({ frames := 0, cells := 0, slots := 0, locals := 0 } : Room) s m args below meth c H locs 0 0 Q (F0 m 0 ls []) := by
  obtain ⟨hx, hb, hml, hown, hts⟩ := C
  intro H locs ls hP hD hS hl
  rw [f_X8_takeSlash] at h
  refine lv_aload_n hx hb dX8_takeSlash_0 rfl (lv_at hl 0 rfl) ?_
  refine va_get (D := G.1) (ci := 7) (v := .int t_rows) (C := RX8) (T := TX8) (N := 5) hx hb hts wi_X8_takeSlash_X8 hown hK hP 0 rfl rfl 3 (by decide) (hts _ wd_X8_takeSlash_1) (fun _ h9 => h9) rfl dX8_takeSlash_1 ?_
  obtain ⟨y_2, hr, h⟩ := bd_ok h
  have J : ∀ (H : Heap) (locs : List Loc) (ls : Array Slot), va_P G.1 vwCl [(q_t, .inr (7, [.int t_place, .int t_row, .int t_column, .int t_rows, .int t_value]))] H → va_D A0 [(q_t, .inr (7, [.int t_place, .int t_row, .int t_column, .int t_rows, .int t_value]))] → va_S A0 H0 H locs → lv_has ls 2 [(0, .ref q_t)] → W p l e ({ frames := 0, cells := 0, slots := 0, locals := 0 } : Room) s m args below meth c H locs 0 0 Q (F0 m 20 ls [.int y_2]) := by
    intro H locs ls hP hD hS hl
    refine lv_istore_n (lv' := [(1, .int y_2), (0, .ref q_t)]) hx hb dX8_takeSlash_20 rfl hl (by decide) rfl (fun ls hl => ?_)
    refine lv_aload_n hx hb dX8_takeSlash_21 rfl (lv_at hl 1 rfl) ?_
    refine va_get (D := G.1) (ci := 7) (v := .int t_column) (C := RX8) (T := TX8) (N := 5) hx hb hts wi_X8_takeSlash_X8 hown hK hP 0 rfl rfl 2 (by decide) (hts _ wd_X8_takeSlash_2) (fun _ h9 => h9) rfl dX8_takeSlash_22 ?_
    refine lv_iconst (v := 1) hx hb dX8_takeSlash_25 (by decide) ?_
    refine lv_iadd hx hb dX8_takeSlash_26 ?_
    refine lv_iload_n hx hb dX8_takeSlash_27 rfl (lv_at hl 0 rfl) ?_
    refine lv_icmp_ne (tgt := 41) hx hb dX8_takeSlash_28 (by decide) (fun c_3 => ?_) (fun c_3 => ?_)
    · replace h := it_f h c_3
      refine lv_iconst (v := 0) hx hb dX8_takeSlash_41 (by decide) ?_
      obtain ⟨rfl, rfl, rfl, rfl, rfl⟩ := sm5 h
      exact KR H locs ls 42 dX8_takeSlash_42 (Or.inl rfl) hP hD hS
    · replace h := it_t h c_3
      refine lv_aload_n hx hb dX8_takeSlash_31 rfl (lv_at hl 1 rfl) ?_
      refine va_get (D := G.1) (ci := 7) (v := .int t_row) (C := RX8) (T := TX8) (N := 5) hx hb hts wi_X8_takeSlash_X8 hown hK hP 0 rfl rfl 1 (by decide) (hts _ wd_X8_takeSlash_3) (fun _ h9 => h9) rfl dX8_takeSlash_32 ?_
      refine lv_iconst (v := 1) hx hb dX8_takeSlash_35 (by decide) ?_
      refine lv_iadd hx hb dX8_takeSlash_36 ?_
      refine lv_iload_n hx hb dX8_takeSlash_37 rfl (lv_at hl 0 rfl) ?_
      refine lv_icmp_lt (tgt := 43) hx hb dX8_takeSlash_38 (by decide) (fun c_4 => ?_) (fun c_4 => ?_)
      · replace h := it_t h c_4
        refine lv_aload_n hx hb dX8_takeSlash_43 rfl (lv_at hl 1 rfl) ?_
        refine lv_iload_n hx hb dX8_takeSlash_44 rfl (lv_at hl 0 rfl) ?_
        refine st_put (D := G.1) (ci := 7) (v := .int y_2) (ty := .int) (C := RX8) (T := TX8) (N := 5) (wn := [(q_t, .inr (7, [.int t_place, .int t_row, .int t_column, .int y_2, .int t_value]))]) hx hb hts wi_X8_takeSlash_X8 tyX8 tyX8_ok nmX8 hown hK hP hD hS 0 rfl rfl 3 (by decide) (hts _ wd_X8_takeSlash_1) (fun _ h9 => h9) rfl (by decide +kernel) rfl rfl (Nat.le_of_ble_eq_true rfl) dX8_takeSlash_45 rfl (fun H locs hP hD hS => ?_)
        refine lv_aload_n hx hb dX8_takeSlash_48 rfl (lv_at hl 1 rfl) ?_
        refine lv_dup hx hb dX8_takeSlash_49 rfl ?_
        refine va_get (D := G.1) (ci := 7) (v := .int t_row) (C := RX8) (T := TX8) (N := 5) hx hb hts wi_X8_takeSlash_X8 hown hK hP 0 rfl rfl 1 (by decide) (hts _ wd_X8_takeSlash_3) (fun _ h9 => h9) rfl dX8_takeSlash_50 ?_
        refine lv_iconst (v := 1) hx hb dX8_takeSlash_53 (by decide) ?_
        refine lv_iadd hx hb dX8_takeSlash_54 ?_
        refine lv_topi (fun t_row_5 et_row_5 => ?_)
        replace h := pl_v h et_row_5
        refine st_put (D := G.1) (ci := 7) (v := .int t_row_5) (ty := .int) (C := RX8) (T := TX8) (N := 5) (wn := [(q_t, .inr (7, [.int t_place, .int t_row_5, .int t_column, .int y_2, .int t_value]))]) hx hb hts wi_X8_takeSlash_X8 tyX8 tyX8_ok nmX8 hown hK hP hD hS 0 rfl rfl 1 (by decide) (hts _ wd_X8_takeSlash_3) (fun _ h9 => h9) rfl (by decide +kernel) rfl rfl (Nat.le_of_ble_eq_true rfl) dX8_takeSlash_55 rfl (fun H locs hP hD hS => ?_)
        refine lv_aload_n hx hb dX8_takeSlash_58 rfl (lv_at hl 1 rfl) ?_
        refine lv_iconst (v := 0) hx hb dX8_takeSlash_59 (by decide) ?_
        refine st_put (D := G.1) (ci := 7) (v := .int (0 : Int32)) (ty := .int) (C := RX8) (T := TX8) (N := 5) (wn := [(q_t, .inr (7, [.int t_place, .int t_row_5, .int (0 : Int32), .int y_2, .int t_value]))]) hx hb hts wi_X8_takeSlash_X8 tyX8 tyX8_ok nmX8 hown hK hP hD hS 0 rfl rfl 2 (by decide) (hts _ wd_X8_takeSlash_2) (fun _ h9 => h9) rfl (by decide +kernel) rfl rfl (Nat.le_of_ble_eq_true rfl) dX8_takeSlash_60 rfl (fun H locs hP hD hS => ?_)
        refine lv_aload_n hx hb dX8_takeSlash_63 rfl (lv_at hl 1 rfl) ?_
        refine lv_dup hx hb dX8_takeSlash_64 rfl ?_
        refine va_get (D := G.1) (ci := 7) (v := .int t_place) (C := RX8) (T := TX8) (N := 5) hx hb hts wi_X8_takeSlash_X8 hown hK hP 0 rfl rfl 0 (by decide) (hts _ wd_X8_takeSlash_4) (fun _ h9 => h9) rfl dX8_takeSlash_65 ?_
        refine lv_iconst (v := 1) hx hb dX8_takeSlash_68 (by decide) ?_
        refine lv_iadd hx hb dX8_takeSlash_69 ?_
        refine lv_topi (fun t_place_6 et_place_6 => ?_)
        replace h := pl_v h et_place_6
        refine st_put (D := G.1) (ci := 7) (v := .int t_place_6) (ty := .int) (C := RX8) (T := TX8) (N := 5) (wn := [(q_t, .inr (7, [.int t_place_6, .int t_row_5, .int (0 : Int32), .int y_2, .int t_value]))]) hx hb hts wi_X8_takeSlash_X8 tyX8 tyX8_ok nmX8 hown hK hP hD hS 0 rfl rfl 0 (by decide) (hts _ wd_X8_takeSlash_4) (fun _ h9 => h9) rfl (by decide +kernel) rfl rfl (Nat.le_of_ble_eq_true rfl) dX8_takeSlash_70 rfl (fun H locs hP hD hS => ?_)
        refine lv_iconst (v := 1) hx hb dX8_takeSlash_73 (by decide) ?_
        obtain ⟨rfl, rfl, rfl, rfl, rfl⟩ := sm5 h
        exact KR H locs ls 74 dX8_takeSlash_74 (Or.inr rfl) hP hD hS
      · replace h := it_f h c_4
        refine lv_iconst (v := 0) hx hb dX8_takeSlash_41 (by decide) ?_
        obtain ⟨rfl, rfl, rfl, rfl, rfl⟩ := sm5 h
        exact KR H locs ls 42 dX8_takeSlash_42 (Or.inl rfl) hP hD hS
  replace h := hr
  clear hr
  refine lv_if_ne (tgt := 16) hx hb dX8_takeSlash_4 (by decide) (fun c_1 => ?_) (fun c_1 => ?_)
  · replace h := it_f h c_1
    refine lv_aload_n hx hb dX8_takeSlash_16 rfl (lv_at hl 0 rfl) ?_
    refine va_get (D := G.1) (ci := 7) (v := .int t_rows) (C := RX8) (T := TX8) (N := 5) hx hb hts wi_X8_takeSlash_X8 hown hK hP 0 rfl rfl 3 (by decide) (hts _ wd_X8_takeSlash_1) (fun _ h9 => h9) rfl dX8_takeSlash_17 ?_
    obtain rfl := sm1 h
    exact J H locs ls hP hD hS (lv_sub hl [0] rfl)
  · replace h := it_t h c_1
    refine lv_aload_n hx hb dX8_takeSlash_7 rfl (lv_at hl 0 rfl) ?_
    refine va_get (D := G.1) (ci := 7) (v := .int t_column) (C := RX8) (T := TX8) (N := 5) hx hb hts wi_X8_takeSlash_X8 hown hK hP 0 rfl rfl 2 (by decide) (hts _ wd_X8_takeSlash_2) (fun _ h9 => h9) rfl dX8_takeSlash_8 ?_
    refine lv_iconst (v := 1) hx hb dX8_takeSlash_11 (by decide) ?_
    refine lv_iadd hx hb dX8_takeSlash_12 ?_
    refine lv_goto (tgt := 20) hx hb dX8_takeSlash_13 (by decide) ?_
    obtain rfl := sm1 h
    exact J H locs ls hP hD hS (lv_sub hl [0] rfl)
set_option maxHeartbeats 4000000 in
set_option maxRecDepth 100000 in
theorem c_X8_takeSlash (l : Launch) (G : GT) (q_t : Nat) (sz : Nat) (t_place : Int32) (t_row : Int32) (t_column : Int32) (t_rows : Int32) (t_value : Int32) (r : Int32) (o_t_place : Int32) (o_t_row : Int32) (o_t_column : Int32) (o_t_rows : Int32) (h : f_X8_takeSlash t_place t_row t_column t_rows = some (r, o_t_place, o_t_row, o_t_column, o_t_rows)) : Met l yX8_takeSlash wsX8_takeSlash ({ frames := 0, cells := 0, slots := 0, locals := 0 } : Room) (va_Pc [.ref q_t] (pcW G [(q_t, .inr (7, [.int t_place, .int t_row, .int t_column, .int t_rows, .int t_value]))] sz)) (va_Qi (fun r9 (_ : Unit) => r9 = r) (fun _ t => atW G (va_A [(q_t, .inr (7, [.int t_place, .int t_row, .int t_column, .int t_rows, .int t_value]))] sz) [(q_t, .inr (7, [.int o_t_place, .int o_t_row, .int o_t_column, .int o_t_rows, .int t_value]))] t) (va_A [(q_t, .inr (7, [.int t_place, .int t_row, .int t_column, .int t_rows, .int t_value]))] sz)) 0 0 (va_A [(q_t, .inr (7, [.int t_place, .int t_row, .int t_column, .int t_rows, .int t_value]))] sz) := by
  refine Met.ofW (cc := cX8_takeSlash) (maxL := 2) (ret := (some .boolean)) (by decide) rfl ?_
  intro p e s m args below meth c s₁ B hml hv
  obtain ⟨rfl, hsz, hP, hK, hD0⟩ := hv
  subst hsz
  have hD := hD0.self (sz := s.heap.size)
  generalize hAe : va_A [(q_t, .inr (7, [.int t_place, .int t_row, .int t_column, .int t_rows, .int t_value]))] s.heap.size = A at hD ⊢
  have hA : ∀ q : Nat, s.heap.size ≤ q → A q := fun q h => by rw [← hAe]; exact Or.inr h
  have hl := lv_entry ([.ref q_t]) (n := 2) (Nat.le_of_ble_eq_true rfl)
  rw [lg_entry_eq]
  refine k_X8_takeSlash ⟨B.exec, B.bytes, hml, findClass_of_methodNamed B.named, atoms_spec (ws := wsX8_takeSlash) B.pre⟩ G hK hA q_t _ _ _ _ _ _ _ _ _ _ h ?_ _ _ _ hP hD va_S.rf hl
  intro H locs ls pc hd hbo hP hD hS
  exact W.zret B.exec B.bytes B.returns (by rcases hbo with e | e <;> subst e <;> rfl) (fun t ht hW => ⟨⟨r, (), rfl, rfl, by rw [ht]; exact hP, hD⟩, hS.F ht⟩) hS.2.2 hd B.notSynchronized
set_option maxRecDepth 20000 in
theorem wd_X8_takeSeparator_1 : Cond.fieldLink RX8 14 "PermanentDesk$TextReader" "place" "I" ∈ wsX8_takeSeparator := List.mem_of_getElem? (i := 1) (by decide +kernel)
set_option maxRecDepth 20000 in
theorem wi_X8_takeSeparator_X8 : ∀ w ∈ u_ws RX8 TX8 5, w ∈ wsX8_takeSeparator := by decide +kernel
def f_X8_takeSeparator (t_place : Int32) (t_row : Int32) (t_column : Int32) (t_rows : Int32) (a1_length : Int32) (a1_characters : Nat → Int32) : Option (Int32 × Int32 × Int32 × Int32 × Int32) :=
  (f_X7_at a1_length a1_characters t_place).bind (fun r_1 =>
  if r_1 = (44 : Int32) then
    (f_X8_takeComma t_place t_column t_rows).bind (fun (r_14, t_place_12, t_column_13) =>
    gd (r_14 = 0 ∨ r_14 = 1) (
    some (r_14, t_place_12, t_row, t_column_13, t_rows)))
  else
    if r_1 = (47 : Int32) then
      (f_X8_takeSlash t_place t_row t_column t_rows).bind (fun (r_9, t_place_5, t_row_6, t_column_7, t_rows_8) =>
      if r_9 = 0 then
        some ((0 : Int32), t_place_5, t_row_6, t_column_7, t_rows_8)
      else
        some ((1 : Int32), t_place_5, t_row_6, t_column_7, t_rows_8))
    else
      some ((0 : Int32), t_place, t_row, t_column, t_rows))
set_option maxHeartbeats 4000000 in
set_option maxRecDepth 100000 in
theorem k_X8_takeSeparator {p : Program} {l : Launch} {e : Env} {s : State} {m : MethodId} {args : Array Value} {below : List Frame} {meth : Method} {c : Code} {Q : State → Prop} {A0 : Nat → Prop} {H0 : Heap} (C : CallFix p m c cX8_takeSeparator 3 s args wsX8_takeSeparator RX8) (G : GT) (hK : gK G s) (hA : ∀ q : Nat, H0.size ≤ q → A0 q) (q_t q_a1 q_a1_characters : Nat) (t_place : Int32) (t_row : Int32) (t_column : Int32) (t_rows : Int32) (t_value : Int32) (a1_length : Int32) (a1_characters : Nat → Int32) (r : Int32) (o_t_place : Int32) (o_t_row : Int32) (o_t_column : Int32) (o_t_rows : Int32) (h : f_X8_takeSeparator t_place t_row t_column t_rows a1_length a1_characters = some (r, o_t_place, o_t_row, o_t_column, o_t_rows)) (KR : ∀ (H : Heap) (locs : List Loc) (ls : Array Slot) (pc : Nat), decode cX8_takeSeparator pc = .ok (.ireturn, 1) → (r = 0 ∨ r = 1) → va_P G.1 vwCl [(q_t, .inr (7, [.int o_t_place, .int o_t_row, .int o_t_column, .int o_t_rows, .int t_value])), (q_a1, .inr (6, [.ref q_a1_characters, .int a1_length])), (q_a1_characters, .inl (G.2 3, 100, .inl a1_characters))] H → va_D A0 [(q_t, .inr (7, [.int o_t_place, .int o_t_row, .int o_t_column, .int o_t_rows, .int t_value])), (q_a1, .inr (6, [.ref q_a1_characters, .int a1_length])), (q_a1_characters, .inl (G.2 3, 100, .inl a1_characters))] → va_S A0 H0 H locs → W p l e ({ frames := 1, cells := 0, slots := 0, locals := 21 } : Room) s m args below meth c H locs 0 0 Q (F0 m pc ls [.int r])) : ∀ (H : Heap) (locs : List Loc) (ls : Array Slot), va_P G.1 vwCl [(q_t, .inr (7, [.int t_place, .int t_row, .int t_column, .int t_rows, .int t_value])), (q_a1, .inr (6, [.ref q_a1_characters, .int a1_length])), (q_a1_characters, .inl (G.2 3, 100, .inl a1_characters))] H → va_D A0 [(q_t, .inr (7, [.int t_place, .int t_row, .int t_column, .int t_rows, .int t_value])), (q_a1, .inr (6, [.ref q_a1_characters, .int a1_length])), (q_a1_characters, .inl (G.2 3, 100, .inl a1_characters))] → va_S A0 H0 H locs → lv_has ls 3 [(0, .ref q_t), (1, .ref q_a1)] → W p l e ({ frames := 1, cells := 0, slots := 0, locals := 21 } : Room) s m args below meth c H locs 0 0 Q (F0 m 0 ls []) := by
  obtain ⟨hx, hb, hml, hown, hts⟩ := C
  intro H locs ls hP hD hS hl
  rw [f_X8_takeSeparator] at h
  refine lv_aload_n hx hb dX8_takeSeparator_0 rfl (lv_at hl 1 rfl) ?_
  refine lv_aload_n hx hb dX8_takeSeparator_1 rfl (lv_at hl 0 rfl) ?_
  refine va_get (D := G.1) (ci := 7) (v := .int t_place) (C := RX8) (T := TX8) (N := 5) hx hb hts wi_X8_takeSeparator_X8 hown hK hP 0 rfl rfl 0 (by decide) (hts _ wd_X8_takeSeparator_1) (fun _ h9 => h9) rfl dX8_takeSeparator_2 ?_
  obtain ⟨r_1, hf_2, h⟩ := bd_ok h
  refine ck_Vi (rest := []) (wn := [(q_t, .inr (7, [.int t_place, .int t_row, .int t_column, .int t_rows, .int t_value])), (q_a1, .inr (6, [.ref q_a1_characters, .int a1_length])), (q_a1_characters, .inl (G.2 3, 100, .inl a1_characters))]) ⟨hx, hb, hml, hown, hts⟩ hK hP hD hS hA [1, 2] [0] [0, 1, 2] (c_X7_at l G q_a1 q_a1_characters _ a1_length a1_characters t_place _ hf_2) (cwV 1 hts gX8_takeSeparator_X7_at rfl rfl rfl (by decide +kernel) ⟨Nat.le_of_ble_eq_true rfl, Nat.le_of_ble_eq_true rfl⟩) rfl rfl rfl rfl rfl rfl (by decide) rfl rfl rfl hl.1 rfl (Nat.le_of_ble_eq_true rfl) dX8_takeSeparator_5 ⟨Nat.zero_le _, Nat.zero_le _⟩ (fun H locs hP hD hS => ?_)
  refine lv_istore_n (lv' := [(2, .int r_1), (0, .ref q_t), (1, .ref q_a1)]) hx hb dX8_takeSeparator_8 rfl hl (by decide) rfl (fun ls hl => ?_)
  refine lv_iload_n hx hb dX8_takeSeparator_9 rfl (lv_at hl 0 rfl) ?_
  refine lv_bipush (v := 44) hx hb dX8_takeSeparator_10 (by decide) ?_
  refine lv_icmp_ne (tgt := 20) hx hb dX8_takeSeparator_12 (by decide) (fun c_3 => ?_) (fun c_3 => ?_)
  · replace h := it_f h c_3
    refine lv_iload_n hx hb dX8_takeSeparator_20 rfl (lv_at hl 0 rfl) ?_
    refine lv_bipush (v := 47) hx hb dX8_takeSeparator_21 (by decide) ?_
    refine lv_icmp_ne (tgt := 37) hx hb dX8_takeSeparator_23 (by decide) (fun c_4 => ?_) (fun c_4 => ?_)
    · replace h := it_f h c_4
      refine lv_iconst (v := 0) hx hb dX8_takeSeparator_37 (by decide) ?_
      obtain ⟨rfl, rfl, rfl, rfl, rfl⟩ := sm5 h
      exact KR H locs ls 38 dX8_takeSeparator_38 (Or.inl rfl) hP hD hS
    · replace h := it_t h c_4
      refine lv_aload_n hx hb dX8_takeSeparator_26 rfl (lv_at hl 1 rfl) ?_
      obtain ⟨⟨r_9, t_place_5, t_row_6, t_column_7, t_rows_8⟩, hf_10, h⟩ := bd_ok h
      refine ck_Vi (rest := []) (wn := [(q_t, .inr (7, [.int t_place_5, .int t_row_6, .int t_column_7, .int t_rows_8, .int t_value])), (q_a1, .inr (6, [.ref q_a1_characters, .int a1_length])), (q_a1_characters, .inl (G.2 3, 100, .inl a1_characters))]) ⟨hx, hb, hml, hown, hts⟩ hK hP hD hS hA [0] [1, 2] [2, 0, 1] (c_X8_takeSlash l G q_t _ t_place t_row t_column t_rows t_value _ _ _ _ _ hf_10) (cwV 0 hts gX8_takeSeparator_X8_takeSlash rfl rfl rfl (by decide +kernel) ⟨Nat.le_of_ble_eq_true rfl, Nat.le_of_ble_eq_true rfl⟩) rfl rfl rfl rfl rfl rfl (by decide) rfl rfl rfl hl.1 rfl (Nat.le_of_ble_eq_true rfl) dX8_takeSeparator_27 ⟨Nat.zero_le _, Nat.zero_le _⟩ (fun H locs hP hD hS => ?_)
      refine lv_if_eq (tgt := 37) hx hb dX8_takeSeparator_30 (by decide) (fun c_11 => ?_) (fun c_11 => ?_)
      · replace h := it_t h c_11
        refine lv_iconst (v := 0) hx hb dX8_takeSeparator_37 (by decide) ?_
        obtain ⟨rfl, rfl, rfl, rfl, rfl⟩ := sm5 h
        exact KR H locs ls 38 dX8_takeSeparator_38 (Or.inl rfl) hP hD hS
      · replace h := it_f h c_11
        refine lv_iconst (v := 1) hx hb dX8_takeSeparator_33 (by decide) ?_
        refine lv_goto (tgt := 38) hx hb dX8_takeSeparator_34 (by decide) ?_
        obtain ⟨rfl, rfl, rfl, rfl, rfl⟩ := sm5 h
        exact KR H locs ls 38 dX8_takeSeparator_38 (Or.inr rfl) hP hD hS
  · replace h := it_t h c_3
    refine lv_aload_n hx hb dX8_takeSeparator_15 rfl (lv_at hl 1 rfl) ?_
    obtain ⟨⟨r_14, t_place_12, t_column_13⟩, hf_15, h⟩ := bd_ok h
    refine ck_Vi (rest := []) (wn := [(q_t, .inr (7, [.int t_place_12, .int t_row, .int t_column_13, .int t_rows, .int t_value])), (q_a1, .inr (6, [.ref q_a1_characters, .int a1_length])), (q_a1_characters, .inl (G.2 3, 100, .inl a1_characters))]) ⟨hx, hb, hml, hown, hts⟩ hK hP hD hS hA [0] [1, 2] [2, 0, 1] (c_X8_takeComma l G q_t _ t_place t_row t_column t_rows t_value _ _ _ hf_15) (cwV 0 hts gX8_takeSeparator_X8_takeComma rfl rfl rfl (by decide +kernel) ⟨Nat.le_of_ble_eq_true rfl, Nat.le_of_ble_eq_true rfl⟩) rfl rfl rfl rfl rfl rfl (by decide) rfl rfl rfl hl.1 rfl (Nat.le_of_ble_eq_true rfl) dX8_takeSeparator_16 ⟨Nat.zero_le _, Nat.zero_le _⟩ (fun H locs hP hD hS => ?_)
    obtain ⟨g_16, h⟩ := gd_ok h
    obtain ⟨rfl, rfl, rfl, rfl, rfl⟩ := sm5 h
    exact KR H locs ls 19 dX8_takeSeparator_19 g_16 hP hD hS
set_option maxHeartbeats 4000000 in
set_option maxRecDepth 100000 in
theorem c_X8_takeSeparator (l : Launch) (G : GT) (q_t q_a1 q_a1_characters : Nat) (sz : Nat) (t_place : Int32) (t_row : Int32) (t_column : Int32) (t_rows : Int32) (t_value : Int32) (a1_length : Int32) (a1_characters : Nat → Int32) (r : Int32) (o_t_place : Int32) (o_t_row : Int32) (o_t_column : Int32) (o_t_rows : Int32) (h : f_X8_takeSeparator t_place t_row t_column t_rows a1_length a1_characters = some (r, o_t_place, o_t_row, o_t_column, o_t_rows)) : Met l yX8_takeSeparator wsX8_takeSeparator ({ frames := 1, cells := 0, slots := 0, locals := 21 } : Room) (va_Pc [.ref q_t, .ref q_a1] (pcW G [(q_t, .inr (7, [.int t_place, .int t_row, .int t_column, .int t_rows, .int t_value])), (q_a1, .inr (6, [.ref q_a1_characters, .int a1_length])), (q_a1_characters, .inl (G.2 3, 100, .inl a1_characters))] sz)) (va_Qi (fun r9 (_ : Unit) => r9 = r) (fun _ t => atW G (va_A [(q_t, .inr (7, [.int t_place, .int t_row, .int t_column, .int t_rows, .int t_value])), (q_a1, .inr (6, [.ref q_a1_characters, .int a1_length])), (q_a1_characters, .inl (G.2 3, 100, .inl a1_characters))] sz) [(q_t, .inr (7, [.int o_t_place, .int o_t_row, .int o_t_column, .int o_t_rows, .int t_value])), (q_a1, .inr (6, [.ref q_a1_characters, .int a1_length])), (q_a1_characters, .inl (G.2 3, 100, .inl a1_characters))] t) (va_A [(q_t, .inr (7, [.int t_place, .int t_row, .int t_column, .int t_rows, .int t_value])), (q_a1, .inr (6, [.ref q_a1_characters, .int a1_length])), (q_a1_characters, .inl (G.2 3, 100, .inl a1_characters))] sz)) 0 0 (va_A [(q_t, .inr (7, [.int t_place, .int t_row, .int t_column, .int t_rows, .int t_value])), (q_a1, .inr (6, [.ref q_a1_characters, .int a1_length])), (q_a1_characters, .inl (G.2 3, 100, .inl a1_characters))] sz) := by
  refine Met.ofW (cc := cX8_takeSeparator) (maxL := 3) (ret := (some .boolean)) (by decide) rfl ?_
  intro p e s m args below meth c s₁ B hml hv
  obtain ⟨rfl, hsz, hP, hK, hD0⟩ := hv
  subst hsz
  have hD := hD0.self (sz := s.heap.size)
  generalize hAe : va_A [(q_t, .inr (7, [.int t_place, .int t_row, .int t_column, .int t_rows, .int t_value])), (q_a1, .inr (6, [.ref q_a1_characters, .int a1_length])), (q_a1_characters, .inl (G.2 3, 100, .inl a1_characters))] s.heap.size = A at hD ⊢
  have hA : ∀ q : Nat, s.heap.size ≤ q → A q := fun q h => by rw [← hAe]; exact Or.inr h
  have hl := lv_entry ([.ref q_t, .ref q_a1]) (n := 3) (Nat.le_of_ble_eq_true rfl)
  rw [lg_entry_eq]
  refine k_X8_takeSeparator ⟨B.exec, B.bytes, hml, findClass_of_methodNamed B.named, atoms_spec (ws := wsX8_takeSeparator) B.pre⟩ G hK hA q_t q_a1 q_a1_characters _ _ _ _ _ _ _ _ _ _ _ _ h ?_ _ _ _ hP hD va_S.rf hl
  intro H locs ls pc hd hbo hP hD hS
  exact W.zret B.exec B.bytes B.returns (by rcases hbo with e | e <;> subst e <;> rfl) (fun t ht hW => ⟨⟨r, (), rfl, rfl, by rw [ht]; exact hP, hD⟩, hS.F ht⟩) hS.2.2 hd B.notSynchronized
set_option maxRecDepth 20000 in
theorem wd_X8_readInto_2 : Cond.fieldLink RX8 18 "PermanentDesk$TextReader" "row" "I" ∈ wsX8_readInto := List.mem_of_getElem? (i := 2) (by decide +kernel)
set_option maxRecDepth 20000 in
theorem wi_X8_readInto_X8 : ∀ w ∈ u_ws RX8 TX8 5, w ∈ wsX8_readInto := by decide +kernel
set_option maxRecDepth 20000 in
theorem wd_X8_readInto_3 : Cond.fieldLink RX8 21 "PermanentDesk$TextReader" "column" "I" ∈ wsX8_readInto := List.mem_of_getElem? (i := 3) (by decide +kernel)
set_option maxRecDepth 20000 in
theorem wd_X8_readInto_4 : Cond.fieldLink RX8 27 "PermanentDesk$TextReader" "value" "I" ∈ wsX8_readInto := List.mem_of_getElem? (i := 4) (by decide +kernel)
set_option maxRecDepth 20000 in
theorem wd_X8_readInto_1 : Cond.fieldLink RX8 14 "PermanentDesk$TextReader" "place" "I" ∈ wsX8_readInto := List.mem_of_getElem? (i := 1) (by decide +kernel)
def f_X8_readInto_L1 (a1_size : Int32) (a2_length : Int32) (a2_characters : Nat → Int32) : (Int32 × Int32 × Int32 × Int32 × Int32 × Int32 × (Nat → Int32)) → Option ((Int32 × Int32 × Int32 × Int32 × Int32 × Int32 × (Nat → Int32)) ⊕ ((Int32 × Int32 × Int32 × Int32 × Int32 × (Nat → Int32)) ⊕ (Int32 × Int32 × Int32 × Int32 × Int32 × Int32 × Int32 × (Nat → Int32))))
  | (x3, t_place, t_row, t_column, t_rows, t_value, a1_cells) =>
    if (49 : Int32) ≤ x3 then
      some (.inr (.inl (t_place, t_row, t_column, t_rows, t_value, a1_cells)))
    else
      (f_X8_takeEntry t_place t_value a2_length a2_characters).bind (fun (r_13, t_place_11, t_value_12) =>
      if r_13 = 0 then
        some (.inr (.inr (t_place_11, t_place_11, t_row, t_column, t_rows, t_value_12, a1_size, a1_cells)))
      else
        (f_X4_put a1_size a1_cells t_row t_column t_value_12).bind (fun a1_cells_16 =>
        (f_X7_length a2_length).bind (fun r_18 =>
        if t_place_11 < r_18 then
          (f_X8_takeSeparator t_place_11 t_row t_column t_rows a2_length a2_characters).bind (fun (r_25, t_place_21, t_row_22, t_column_23, t_rows_24) =>
          if r_25 = 0 then
            some (.inr (.inr (t_place_21, t_place_21, t_row_22, t_column_23, t_rows_24, t_value_12, a1_size, a1_cells_16)))
          else
            pl ((x3 + (1 : Int32)) : Int32) (fun x3_28 =>
            some (.inl (x3_28, t_place_21, t_row_22, t_column_23, t_rows_24, t_value_12, a1_cells_16))))
        else
          (f_X8_endWith t_place_11 t_row t_column t_rows a1_size).bind (fun (r_30, a1_size_29) =>
          some (.inr (.inr (r_30, t_place_11, t_row, t_column, t_rows, t_value_12, a1_size_29, a1_cells_16)))))))
def f_X8_readInto (t_place : Int32) (t_row : Int32) (t_column : Int32) (t_rows : Int32) (t_value : Int32) (a1_size : Int32) (a1_cells : Nat → Int32) (a2_length : Int32) (a2_characters : Nat → Int32) : Option (Int32 × Int32 × Int32 × Int32 × Int32 × Int32 × Int32 × (Nat → Int32)) :=
  (f_X8_start t_place t_row t_column t_rows t_value).bind (fun (t_place_1, t_row_2, t_column_3, t_rows_4, t_value_5) =>
  (f_X4_fillWithZeros a1_size a1_cells (7 : Int32)).bind (fun (a1_size_7, a1_cells_8) =>
  (lpN (f_X8_readInto_L1 a1_size_7 a2_length a2_characters) FU ((0 : Int32), t_place_1, t_row_2, t_column_3, t_rows_4, t_value_5, a1_cells_8)).bind (fun z_38 => match z_38 with
  | .inl (t_place_32, t_row_33, t_column_34, t_rows_35, t_value_36, a1_cells_37) =>
    some (t_place_32, t_place_32, t_row_33, t_column_34, t_rows_35, t_value_36, a1_size_7, a1_cells_37)
  | .inr (r_40, t_place_41, t_row_42, t_column_43, t_rows_44, t_value_45, a1_size_46, a1_cells_47) => some (r_40, t_place_41, t_row_42, t_column_43, t_rows_44, t_value_45, a1_size_46, a1_cells_47))))
set_option maxHeartbeats 4000000 in
set_option maxRecDepth 100000 in
theorem l_X8_readInto_1 {p : Program} {l : Launch} {e : Env} {s : State} {m : MethodId} {args : Array Value} {below : List Frame} {meth : Method} {c : Code} {Q : State → Prop} {A0 : Nat → Prop} {H0 : Heap} (C : CallFix p m c cX8_readInto 4 s args wsX8_readInto RX8) (G : GT) (hK : gK G s) (hA : ∀ q : Nat, H0.size ≤ q → A0 q) (q_t q_a1 q_a1_cells q_a2 q_a2_characters : Nat) (a1_size : Int32) (a2_length : Int32) (a2_characters : Nat → Int32) (z : ((Int32 × Int32 × Int32 × Int32 × Int32 × (Nat → Int32)) ⊕ (Int32 × Int32 × Int32 × Int32 × Int32 × Int32 × Int32 × (Nat → Int32)))) (K : ∀ (E_t_place : Int32), ∀ (E_t_row : Int32), ∀ (E_t_column : Int32), ∀ (E_t_rows : Int32), ∀ (E_t_value : Int32), ∀ (E_a1_cells : Nat → Int32), z = .inl (E_t_place, E_t_row, E_t_column, E_t_rows, E_t_value, E_a1_cells) → ∀ (H : Heap) (locs : List Loc) (ls : Array Slot), va_P G.1 vwCl [(q_t, .inr (7, [.int E_t_place, .int E_t_row, .int E_t_column, .int E_t_rows, .int E_t_value])), (q_a1, .inr (3, [.ref q_a1_cells, .int a1_size])), (q_a1_cells, .inl (G.2 0, 49, .inl E_a1_cells)), (q_a2, .inr (6, [.ref q_a2_characters, .int a2_length])), (q_a2_characters, .inl (G.2 3, 100, .inl a2_characters))] H → va_D A0 [(q_t, .inr (7, [.int E_t_place, .int E_t_row, .int E_t_column, .int E_t_rows, .int E_t_value])), (q_a1, .inr (3, [.ref q_a1_cells, .int a1_size])), (q_a1_cells, .inl (G.2 0, 49, .inl E_a1_cells)), (q_a2, .inr (6, [.ref q_a2_characters, .int a2_length])), (q_a2_characters, .inl (G.2 3, 100, .inl a2_characters))] → va_S A0 H0 H locs → lv_has ls 4 [(0, .ref q_t)] → W p l e ({ frames := 2, cells := 0, slots := 0, locals := 46 } : Room) s m args below meth c H locs 0 0 Q (F0 m 83 ls [])) (KR : ∀ (r : Int32) (o_t_place : Int32) (o_t_row : Int32) (o_t_column : Int32) (o_t_rows : Int32) (o_t_value : Int32) (o_a1_size : Int32) (o_a1_cells : Nat → Int32), z = .inr (r, o_t_place, o_t_row, o_t_column, o_t_rows, o_t_value, o_a1_size, o_a1_cells) → ∀ (H : Heap) (locs : List Loc) (ls : Array Slot) (pc : Nat), decode cX8_readInto pc = .ok (.ireturn, 1) → va_P G.1 vwCl [(q_t, .inr (7, [.int o_t_place, .int o_t_row, .int o_t_column, .int o_t_rows, .int o_t_value])), (q_a1, .inr (3, [.ref q_a1_cells, .int o_a1_size])), (q_a1_cells, .inl (G.2 0, 49, .inl o_a1_cells)), (q_a2, .inr (6, [.ref q_a2_characters, .int a2_length])), (q_a2_characters, .inl (G.2 3, 100, .inl a2_characters))] H → va_D A0 [(q_t, .inr (7, [.int o_t_place, .int o_t_row, .int o_t_column, .int o_t_rows, .int o_t_value])), (q_a1, .inr (3, [.ref q_a1_cells, .int o_a1_size])), (q_a1_cells, .inl (G.2 0, 49, .inl o_a1_cells)), (q_a2, .inr (6, [.ref q_a2_characters, .int a2_length])), (q_a2_characters, .inl (G.2 3, 100, .inl a2_characters))] → va_S A0 H0 H locs → W p l e ({ frames := 2, cells := 0, slots := 0, locals := 46 } : Room) s m args below meth c H locs 0 0 Q (F0 m pc ls [.int r])) : ∀ (n : Nat) (x3 : Int32) (t_place : Int32) (t_row : Int32) (t_column : Int32) (t_rows : Int32) (t_value : Int32) (a1_cells : Nat → Int32), lpN (f_X8_readInto_L1 a1_size a2_length a2_characters) n (x3, t_place, t_row, t_column, t_rows, t_value, a1_cells) = some z → ∀ (H : Heap) (locs : List Loc) (ls : Array Slot), va_P G.1 vwCl [(q_t, .inr (7, [.int t_place, .int t_row, .int t_column, .int t_rows, .int t_value])), (q_a1, .inr (3, [.ref q_a1_cells, .int a1_size])), (q_a1_cells, .inl (G.2 0, 49, .inl a1_cells)), (q_a2, .inr (6, [.ref q_a2_characters, .int a2_length])), (q_a2_characters, .inl (G.2 3, 100, .inl a2_characters))] H → va_D A0 [(q_t, .inr (7, [.int t_place, .int t_row, .int t_column, .int t_rows, .int t_value])), (q_a1, .inr (3, [.ref q_a1_cells, .int a1_size])), (q_a1_cells, .inl (G.2 0, 49, .inl a1_cells)), (q_a2, .inr (6, [.ref q_a2_characters, .int a2_length])), (q_a2_characters, .inl (G.2 3, 100, .inl a2_characters))] → va_S A0 H0 H locs → lv_has ls 4 [(0, .ref q_t), (1, .ref q_a1), (2, .ref q_a2), (3, .int x3)] → W p l e ({ frames := 2, cells := 0, slots := 0, locals := 46 } : Room) s m args below meth c H locs 0 0 Q (F0 m 12 ls []) := by
  obtain ⟨hx, hb, hml, hown, hts⟩ := C
  intro n
  induction n with
  | zero => intro x3 t_place t_row t_column t_rows t_value a1_cells h; exact absurd h (fun h => lp_0 h)
  | succ n ih =>
    intro x3 t_place t_row t_column t_rows t_value a1_cells h H locs ls hP hD hS hl
    obtain ⟨y, h, hk⟩ := lp_s h
    rw [f_X8_readInto_L1] at h
    refine lv_iload_n hx hb dX8_readInto_12 rfl (lv_at hl 3 rfl) ?_
    refine lv_bipush (v := 49) hx hb dX8_readInto_13 (by decide) ?_
    refine lv_icmp_ge (tgt := 83) hx hb dX8_readInto_15 (by decide) (fun c_10 => ?_) (fun c_10 => ?_)
    · replace h := it_t h c_10
      obtain rfl := sm1 h
      obtain rfl := sm1 hk
      exact K t_place t_row t_column t_rows t_value a1_cells rfl H locs ls hP hD hS (lv_sub hl [0] rfl)
    · replace h := it_f h c_10
      refine lv_aload_n hx hb dX8_readInto_18 rfl (lv_at hl 0 rfl) ?_
      refine lv_aload_n hx hb dX8_readInto_19 rfl (lv_at hl 2 rfl) ?_
      obtain ⟨⟨r_13, t_place_11, t_value_12⟩, hf_14, h⟩ := bd_ok h
      refine ck_Vi (rest := []) (wn := [(q_t, .inr (7, [.int t_place_11, .int t_row, .int t_column, .int t_rows, .int t_value_12])), (q_a1, .inr (3, [.ref q_a1_cells, .int a1_size])), (q_a1_cells, .inl (G.2 0, 49, .inl a1_cells)), (q_a2, .inr (6, [.ref q_a2_characters, .int a2_length])), (q_a2_characters, .inl (G.2 3, 100, .inl a2_characters))]) ⟨hx, hb, hml, hown, hts⟩ hK hP hD hS hA [0, 3, 4] [1, 2] [2, 0, 1, 3, 4] (c_X8_takeEntry l G q_t q_a2 q_a2_characters _ t_place t_row t_column t_rows t_value a2_length a2_characters _ _ _ hf_14) (cwV 1 hts gX8_readInto_X8_takeEntry rfl rfl rfl (by decide +kernel) ⟨Nat.le_of_ble_eq_true rfl, Nat.le_of_ble_eq_true rfl⟩) rfl rfl rfl rfl rfl rfl (by decide) rfl rfl rfl hl.1 rfl (Nat.le_of_ble_eq_true rfl) dX8_readInto_20 ⟨Nat.zero_le _, Nat.zero_le _⟩ (fun H locs hP hD hS => ?_)
      refine lv_if_ne (tgt := 31) hx hb dX8_readInto_23 (by decide) (fun c_15 => ?_) (fun c_15 => ?_)
      · replace h := it_f h c_15
        refine lv_aload_n hx hb dX8_readInto_31 rfl (lv_at hl 1 rfl) ?_
        refine lv_aload_n hx hb dX8_readInto_32 rfl (lv_at hl 0 rfl) ?_
        refine va_get (D := G.1) (ci := 7) (v := .int t_row) (C := RX8) (T := TX8) (N := 5) hx hb hts wi_X8_readInto_X8 hown hK hP 0 rfl rfl 1 (by decide) (hts _ wd_X8_readInto_2) (fun _ h9 => h9) rfl dX8_readInto_33 ?_
        refine lv_aload_n hx hb dX8_readInto_36 rfl (lv_at hl 0 rfl) ?_
        refine va_get (D := G.1) (ci := 7) (v := .int t_column) (C := RX8) (T := TX8) (N := 5) hx hb hts wi_X8_readInto_X8 hown hK hP 0 rfl rfl 2 (by decide) (hts _ wd_X8_readInto_3) (fun _ h9 => h9) rfl dX8_readInto_37 ?_
        refine lv_aload_n hx hb dX8_readInto_40 rfl (lv_at hl 0 rfl) ?_
        refine va_get (D := G.1) (ci := 7) (v := .int t_value_12) (C := RX8) (T := TX8) (N := 5) hx hb hts wi_X8_readInto_X8 hown hK hP 0 rfl rfl 4 (by decide) (hts _ wd_X8_readInto_4) (fun _ h9 => h9) rfl dX8_readInto_41 ?_
        obtain ⟨a1_cells_16, hf_17, h⟩ := bd_ok h
        refine ck_Vv (rest := []) (wn := [(q_t, .inr (7, [.int t_place_11, .int t_row, .int t_column, .int t_rows, .int t_value_12])), (q_a1, .inr (3, [.ref q_a1_cells, .int a1_size])), (q_a1_cells, .inl (G.2 0, 49, .inl a1_cells_16)), (q_a2, .inr (6, [.ref q_a2_characters, .int a2_length])), (q_a2_characters, .inl (G.2 3, 100, .inl a2_characters))]) ⟨hx, hb, hml, hown, hts⟩ hK hP hD hS hA [1, 2] [0, 3, 4] [0, 3, 4, 1, 2] (c_X4_put l G q_a1 q_a1_cells _ a1_size a1_cells t_row t_column t_value_12 _ hf_17) (cwV 3 hts gX8_readInto_X4_put rfl rfl rfl (by decide +kernel) ⟨Nat.le_of_ble_eq_true rfl, Nat.le_of_ble_eq_true rfl⟩) rfl rfl rfl rfl rfl rfl (by decide) rfl rfl rfl hl.1 rfl (Nat.le_of_ble_eq_true rfl) dX8_readInto_44 ⟨Nat.zero_le _, Nat.zero_le _⟩ (fun H locs hP hD hS => ?_)
        refine lv_aload_n hx hb dX8_readInto_47 rfl (lv_at hl 0 rfl) ?_
        refine va_get (D := G.1) (ci := 7) (v := .int t_place_11) (C := RX8) (T := TX8) (N := 5) hx hb hts wi_X8_readInto_X8 hown hK hP 0 rfl rfl 0 (by decide) (hts _ wd_X8_readInto_1) (fun _ h9 => h9) rfl dX8_readInto_48 ?_
        refine lv_aload_n hx hb dX8_readInto_51 rfl (lv_at hl 2 rfl) ?_
        obtain ⟨r_18, hf_19, h⟩ := bd_ok h
        refine ck_Vi (rest := [.int t_place_11]) (wn := [(q_t, .inr (7, [.int t_place_11, .int t_row, .int t_column, .int t_rows, .int t_value_12])), (q_a1, .inr (3, [.ref q_a1_cells, .int a1_size])), (q_a1_cells, .inl (G.2 0, 49, .inl a1_cells_16)), (q_a2, .inr (6, [.ref q_a2_characters, .int a2_length])), (q_a2_characters, .inl (G.2 3, 100, .inl a2_characters))]) ⟨hx, hb, hml, hown, hts⟩ hK hP hD hS hA [3] [0, 1, 2, 4] [0, 1, 2, 4, 3] (c_X7_length l G q_a2 q_a2_characters _ a2_length _ hf_19) (cwV 0 hts gX8_readInto_X7_length rfl rfl rfl (by decide +kernel) ⟨Nat.le_of_ble_eq_true rfl, Nat.le_of_ble_eq_true rfl⟩) rfl rfl rfl rfl rfl rfl (by decide) rfl rfl rfl hl.1 rfl (Nat.le_of_ble_eq_true rfl) dX8_readInto_52 ⟨Nat.zero_le _, Nat.zero_le _⟩ (fun H locs hP hD hS => ?_)
        refine lv_icmp_lt (tgt := 64) hx hb dX8_readInto_55 (by decide) (fun c_20 => ?_) (fun c_20 => ?_)
        · replace h := it_t h c_20
          refine lv_aload_n hx hb dX8_readInto_64 rfl (lv_at hl 0 rfl) ?_
          refine lv_aload_n hx hb dX8_readInto_65 rfl (lv_at hl 2 rfl) ?_
          obtain ⟨⟨r_25, t_place_21, t_row_22, t_column_23, t_rows_24⟩, hf_26, h⟩ := bd_ok h
          refine ck_Vi (rest := []) (wn := [(q_t, .inr (7, [.int t_place_21, .int t_row_22, .int t_column_23, .int t_rows_24, .int t_value_12])), (q_a1, .inr (3, [.ref q_a1_cells, .int a1_size])), (q_a1_cells, .inl (G.2 0, 49, .inl a1_cells_16)), (q_a2, .inr (6, [.ref q_a2_characters, .int a2_length])), (q_a2_characters, .inl (G.2 3, 100, .inl a2_characters))]) ⟨hx, hb, hml, hown, hts⟩ hK hP hD hS hA [0, 3, 4] [1, 2] [2, 0, 1, 3, 4] (c_X8_takeSeparator l G q_t q_a2 q_a2_characters _ t_place_11 t_row t_column t_rows t_value_12 a2_length a2_characters _ _ _ _ _ hf_26) (cwV 1 hts gX8_readInto_X8_takeSeparator rfl rfl rfl (by decide +kernel) ⟨Nat.le_of_ble_eq_true rfl, Nat.le_of_ble_eq_true rfl⟩) rfl rfl rfl rfl rfl rfl (by decide) rfl rfl rfl hl.1 rfl (Nat.le_of_ble_eq_true rfl) dX8_readInto_66 ⟨Nat.zero_le _, Nat.zero_le _⟩ (fun H locs hP hD hS => ?_)
          refine lv_if_ne (tgt := 77) hx hb dX8_readInto_69 (by decide) (fun c_27 => ?_) (fun c_27 => ?_)
          · replace h := it_f h c_27
            obtain ⟨x3_28, ex3_28, h⟩ := pl_ok h
            refine lv_iinc (v := x3_28) (lv' := [(3, .int x3_28), (0, .ref q_t), (1, .ref q_a1), (2, .ref q_a2)]) hx hb dX8_readInto_77 hl (k := 3) rfl (by rw [ex3_28]; rfl) (by decide) rfl (fun ls hl => ?_)
            refine lv_goto (tgt := 12) hx hb dX8_readInto_80 (by decide) ?_
            obtain rfl := sm1 h
            exact ih x3_28 t_place_21 t_row_22 t_column_23 t_rows_24 t_value_12 a1_cells_16 hk H locs ls hP hD hS (lv_sub hl [1, 2, 3, 0] rfl)
          · replace h := it_t h c_27
            refine lv_aload_n hx hb dX8_readInto_72 rfl (lv_at hl 0 rfl) ?_
            refine va_get (D := G.1) (ci := 7) (v := .int t_place_21) (C := RX8) (T := TX8) (N := 5) hx hb hts wi_X8_readInto_X8 hown hK hP 0 rfl rfl 0 (by decide) (hts _ wd_X8_readInto_1) (fun _ h9 => h9) rfl dX8_readInto_73 ?_
            obtain rfl := sm1 h
            obtain rfl := sm1 hk
            exact KR t_place_21 t_place_21 t_row_22 t_column_23 t_rows_24 t_value_12 a1_size a1_cells_16 rfl H locs ls 76 dX8_readInto_76 hP hD hS
        · replace h := it_f h c_20
          refine lv_aload_n hx hb dX8_readInto_58 rfl (lv_at hl 0 rfl) ?_
          refine lv_aload_n hx hb dX8_readInto_59 rfl (lv_at hl 1 rfl) ?_
          obtain ⟨⟨r_30, a1_size_29⟩, hf_31, h⟩ := bd_ok h
          refine ck_Vi (rest := []) (wn := [(q_t, .inr (7, [.int t_place_11, .int t_row, .int t_column, .int t_rows, .int t_value_12])), (q_a1, .inr (3, [.ref q_a1_cells, .int a1_size_29])), (q_a1_cells, .inl (G.2 0, 49, .inl a1_cells_16)), (q_a2, .inr (6, [.ref q_a2_characters, .int a2_length])), (q_a2_characters, .inl (G.2 3, 100, .inl a2_characters))]) ⟨hx, hb, hml, hown, hts⟩ hK hP hD hS hA [0, 1] [2, 3, 4] [3, 4, 0, 1, 2] (c_X8_endWith l G q_t q_a1 q_a1_cells _ t_place_11 t_row t_column t_rows t_value_12 a1_size _ _ hf_31) (cwV 1 hts gX8_readInto_X8_endWith rfl rfl rfl (by decide +kernel) ⟨Nat.le_of_ble_eq_true rfl, Nat.le_of_ble_eq_true rfl⟩) rfl rfl rfl rfl rfl rfl (by decide) rfl rfl rfl hl.1 rfl (Nat.le_of_ble_eq_true rfl) dX8_readInto_60 ⟨Nat.zero_le _, Nat.zero_le _⟩ (fun H locs hP hD hS => ?_)
          obtain rfl := sm1 h
          obtain rfl := sm1 hk
          exact KR r_30 t_place_11 t_row t_column t_rows t_value_12 a1_size_29 a1_cells_16 rfl H locs ls 63 dX8_readInto_63 hP hD hS
      · replace h := it_t h c_15
        refine lv_aload_n hx hb dX8_readInto_26 rfl (lv_at hl 0 rfl) ?_
        refine va_get (D := G.1) (ci := 7) (v := .int t_place_11) (C := RX8) (T := TX8) (N := 5) hx hb hts wi_X8_readInto_X8 hown hK hP 0 rfl rfl 0 (by decide) (hts _ wd_X8_readInto_1) (fun _ h9 => h9) rfl dX8_readInto_27 ?_
        obtain rfl := sm1 h
        obtain rfl := sm1 hk
        exact KR t_place_11 t_place_11 t_row t_column t_rows t_value_12 a1_size a1_cells rfl H locs ls 30 dX8_readInto_30 hP hD hS
set_option maxHeartbeats 4000000 in
set_option maxRecDepth 100000 in
theorem k_X8_readInto {p : Program} {l : Launch} {e : Env} {s : State} {m : MethodId} {args : Array Value} {below : List Frame} {meth : Method} {c : Code} {Q : State → Prop} {A0 : Nat → Prop} {H0 : Heap} (C : CallFix p m c cX8_readInto 4 s args wsX8_readInto RX8) (G : GT) (hK : gK G s) (hA : ∀ q : Nat, H0.size ≤ q → A0 q) (q_t q_a1 q_a1_cells q_a2 q_a2_characters : Nat) (t_place : Int32) (t_row : Int32) (t_column : Int32) (t_rows : Int32) (t_value : Int32) (a1_size : Int32) (a1_cells : Nat → Int32) (a2_length : Int32) (a2_characters : Nat → Int32) (r : Int32) (o_t_place : Int32) (o_t_row : Int32) (o_t_column : Int32) (o_t_rows : Int32) (o_t_value : Int32) (o_a1_size : Int32) (o_a1_cells : Nat → Int32) (h : f_X8_readInto t_place t_row t_column t_rows t_value a1_size a1_cells a2_length a2_characters = some (r, o_t_place, o_t_row, o_t_column, o_t_rows, o_t_value, o_a1_size, o_a1_cells)) (KR : ∀ (H : Heap) (locs : List Loc) (ls : Array Slot) (pc : Nat), decode cX8_readInto pc = .ok (.ireturn, 1) → va_P G.1 vwCl [(q_t, .inr (7, [.int o_t_place, .int o_t_row, .int o_t_column, .int o_t_rows, .int o_t_value])), (q_a1, .inr (3, [.ref q_a1_cells, .int o_a1_size])), (q_a1_cells, .inl (G.2 0, 49, .inl o_a1_cells)), (q_a2, .inr (6, [.ref q_a2_characters, .int a2_length])), (q_a2_characters, .inl (G.2 3, 100, .inl a2_characters))] H → va_D A0 [(q_t, .inr (7, [.int o_t_place, .int o_t_row, .int o_t_column, .int o_t_rows, .int o_t_value])), (q_a1, .inr (3, [.ref q_a1_cells, .int o_a1_size])), (q_a1_cells, .inl (G.2 0, 49, .inl o_a1_cells)), (q_a2, .inr (6, [.ref q_a2_characters, .int a2_length])), (q_a2_characters, .inl (G.2 3, 100, .inl a2_characters))] → va_S A0 H0 H locs → W p l e ({ frames := 2, cells := 0, slots := 0, locals := 46 } : Room) s m args below meth c H locs 0 0 Q (F0 m pc ls [.int r])) : ∀ (H : Heap) (locs : List Loc) (ls : Array Slot), va_P G.1 vwCl [(q_t, .inr (7, [.int t_place, .int t_row, .int t_column, .int t_rows, .int t_value])), (q_a1, .inr (3, [.ref q_a1_cells, .int a1_size])), (q_a1_cells, .inl (G.2 0, 49, .inl a1_cells)), (q_a2, .inr (6, [.ref q_a2_characters, .int a2_length])), (q_a2_characters, .inl (G.2 3, 100, .inl a2_characters))] H → va_D A0 [(q_t, .inr (7, [.int t_place, .int t_row, .int t_column, .int t_rows, .int t_value])), (q_a1, .inr (3, [.ref q_a1_cells, .int a1_size])), (q_a1_cells, .inl (G.2 0, 49, .inl a1_cells)), (q_a2, .inr (6, [.ref q_a2_characters, .int a2_length])), (q_a2_characters, .inl (G.2 3, 100, .inl a2_characters))] → va_S A0 H0 H locs → lv_has ls 4 [(0, .ref q_t), (1, .ref q_a1), (2, .ref q_a2)] → W p l e ({ frames := 2, cells := 0, slots := 0, locals := 46 } : Room) s m args below meth c H locs 0 0 Q (F0 m 0 ls []) := by
  obtain ⟨hx, hb, hml, hown, hts⟩ := C
  intro H locs ls hP hD hS hl
  rw [f_X8_readInto] at h
  refine lv_aload_n hx hb dX8_readInto_0 rfl (lv_at hl 0 rfl) ?_
  obtain ⟨⟨t_place_1, t_row_2, t_column_3, t_rows_4, t_value_5⟩, hf_6, h⟩ := bd_ok h
  refine ck_Vv (rest := []) (wn := [(q_t, .inr (7, [.int t_place_1, .int t_row_2, .int t_column_3, .int t_rows_4, .int t_value_5])), (q_a1, .inr (3, [.ref q_a1_cells, .int a1_size])), (q_a1_cells, .inl (G.2 0, 49, .inl a1_cells)), (q_a2, .inr (6, [.ref q_a2_characters, .int a2_length])), (q_a2_characters, .inl (G.2 3, 100, .inl a2_characters))]) ⟨hx, hb, hml, hown, hts⟩ hK hP hD hS hA [0] [1, 2, 3, 4] [4, 0, 1, 2, 3] (c_X8_start l G q_t _ t_place t_row t_column t_rows t_value _ _ _ _ _ hf_6) (cwV 0 hts gX8_readInto_X8_start rfl rfl rfl (by decide +kernel) ⟨Nat.le_of_ble_eq_true rfl, Nat.le_of_ble_eq_true rfl⟩) rfl rfl rfl rfl rfl rfl (by decide) rfl rfl rfl hl.1 rfl (Nat.le_of_ble_eq_true rfl) dX8_readInto_1 ⟨Nat.zero_le _, Nat.zero_le _⟩ (fun H locs hP hD hS => ?_)
  refine lv_aload_n hx hb dX8_readInto_4 rfl (lv_at hl 1 rfl) ?_
  refine lv_bipush (v := 7) hx hb dX8_readInto_5 (by decide) ?_
  obtain ⟨⟨a1_size_7, a1_cells_8⟩, hf_9, h⟩ := bd_ok h
  refine ck_Vv (rest := []) (wn := [(q_t, .inr (7, [.int t_place_1, .int t_row_2, .int t_column_3, .int t_rows_4, .int t_value_5])), (q_a1, .inr (3, [.ref q_a1_cells, .int a1_size_7])), (q_a1_cells, .inl (G.2 0, 49, .inl a1_cells_8)), (q_a2, .inr (6, [.ref q_a2_characters, .int a2_length])), (q_a2_characters, .inl (G.2 3, 100, .inl a2_characters))]) ⟨hx, hb, hml, hown, hts⟩ hK hP hD hS hA [1, 2] [0, 3, 4] [0, 3, 4, 1, 2] (c_X4_fillWithZeros l G q_a1 q_a1_cells _ a1_size a1_cells (7 : Int32) _ _ hf_9) (cwV 1 hts gX8_readInto_X4_fillWithZeros rfl rfl rfl (by decide +kernel) ⟨Nat.le_of_ble_eq_true rfl, Nat.le_of_ble_eq_true rfl⟩) rfl rfl rfl rfl rfl rfl (by decide) rfl rfl rfl hl.1 rfl (Nat.le_of_ble_eq_true rfl) dX8_readInto_7 ⟨Nat.zero_le _, Nat.zero_le _⟩ (fun H locs hP hD hS => ?_)
  refine lv_iconst (v := 0) hx hb dX8_readInto_10 (by decide) ?_
  refine lv_istore_n (lv' := [(3, .int (0 : Int32)), (0, .ref q_t), (1, .ref q_a1), (2, .ref q_a2)]) hx hb dX8_readInto_11 rfl hl (by decide) rfl (fun ls hl => ?_)
  obtain ⟨z_38, hz_39, h⟩ := bd_ok h
  refine l_X8_readInto_1 ⟨hx, hb, hml, hown, hts⟩ G hK hA q_t q_a1 q_a1_cells q_a2 q_a2_characters a1_size_7 a2_length a2_characters z_38 ?_ ?_ FU (0 : Int32) t_place_1 t_row_2 t_column_3 t_rows_4 t_value_5 a1_cells_8 hz_39 H locs ls hP hD hS (lv_sub hl [1, 2, 3, 0] rfl)
  · intro t_place_32 t_row_33 t_column_34 t_rows_35 t_value_36 a1_cells_37 hz H locs ls hP hD hS hl
    subst hz
    refine lv_aload_n hx hb dX8_readInto_83 rfl (lv_at hl 0 rfl) ?_
    refine va_get (D := G.1) (ci := 7) (v := .int t_place_32) (C := RX8) (T := TX8) (N := 5) hx hb hts wi_X8_readInto_X8 hown hK hP 0 rfl rfl 0 (by decide) (hts _ wd_X8_readInto_1) (fun _ h9 => h9) rfl dX8_readInto_84 ?_
    obtain ⟨rfl, rfl, rfl, rfl, rfl, rfl, rfl, rfl⟩ := sm8 h
    exact KR H locs ls 87 dX8_readInto_87 hP hD hS
  · intro r_40 t_place_41 t_row_42 t_column_43 t_rows_44 t_value_45 a1_size_46 a1_cells_47 hz H locs ls pc hd hP hD hS
    subst hz
    obtain ⟨rfl, rfl, rfl, rfl, rfl, rfl, rfl, rfl⟩ := sm8 h
    exact KR H locs ls pc hd hP hD hS
set_option maxHeartbeats 4000000 in
set_option maxRecDepth 100000 in
theorem c_X8_readInto (l : Launch) (G : GT) (q_t q_a1 q_a1_cells q_a2 q_a2_characters : Nat) (sz : Nat) (t_place : Int32) (t_row : Int32) (t_column : Int32) (t_rows : Int32) (t_value : Int32) (a1_size : Int32) (a1_cells : Nat → Int32) (a2_length : Int32) (a2_characters : Nat → Int32) (r : Int32) (o_t_place : Int32) (o_t_row : Int32) (o_t_column : Int32) (o_t_rows : Int32) (o_t_value : Int32) (o_a1_size : Int32) (o_a1_cells : Nat → Int32) (h : f_X8_readInto t_place t_row t_column t_rows t_value a1_size a1_cells a2_length a2_characters = some (r, o_t_place, o_t_row, o_t_column, o_t_rows, o_t_value, o_a1_size, o_a1_cells)) : Met l yX8_readInto wsX8_readInto ({ frames := 2, cells := 0, slots := 0, locals := 46 } : Room) (va_Pc [.ref q_t, .ref q_a1, .ref q_a2] (pcW G [(q_t, .inr (7, [.int t_place, .int t_row, .int t_column, .int t_rows, .int t_value])), (q_a1, .inr (3, [.ref q_a1_cells, .int a1_size])), (q_a1_cells, .inl (G.2 0, 49, .inl a1_cells)), (q_a2, .inr (6, [.ref q_a2_characters, .int a2_length])), (q_a2_characters, .inl (G.2 3, 100, .inl a2_characters))] sz)) (va_Qi (fun r9 (_ : Unit) => r9 = r) (fun _ t => atW G (va_A [(q_t, .inr (7, [.int t_place, .int t_row, .int t_column, .int t_rows, .int t_value])), (q_a1, .inr (3, [.ref q_a1_cells, .int a1_size])), (q_a1_cells, .inl (G.2 0, 49, .inl a1_cells)), (q_a2, .inr (6, [.ref q_a2_characters, .int a2_length])), (q_a2_characters, .inl (G.2 3, 100, .inl a2_characters))] sz) [(q_t, .inr (7, [.int o_t_place, .int o_t_row, .int o_t_column, .int o_t_rows, .int o_t_value])), (q_a1, .inr (3, [.ref q_a1_cells, .int o_a1_size])), (q_a1_cells, .inl (G.2 0, 49, .inl o_a1_cells)), (q_a2, .inr (6, [.ref q_a2_characters, .int a2_length])), (q_a2_characters, .inl (G.2 3, 100, .inl a2_characters))] t) (va_A [(q_t, .inr (7, [.int t_place, .int t_row, .int t_column, .int t_rows, .int t_value])), (q_a1, .inr (3, [.ref q_a1_cells, .int a1_size])), (q_a1_cells, .inl (G.2 0, 49, .inl a1_cells)), (q_a2, .inr (6, [.ref q_a2_characters, .int a2_length])), (q_a2_characters, .inl (G.2 3, 100, .inl a2_characters))] sz)) 0 0 (va_A [(q_t, .inr (7, [.int t_place, .int t_row, .int t_column, .int t_rows, .int t_value])), (q_a1, .inr (3, [.ref q_a1_cells, .int a1_size])), (q_a1_cells, .inl (G.2 0, 49, .inl a1_cells)), (q_a2, .inr (6, [.ref q_a2_characters, .int a2_length])), (q_a2_characters, .inl (G.2 3, 100, .inl a2_characters))] sz) := by
  refine Met.ofW (cc := cX8_readInto) (maxL := 4) (ret := (some .int)) (by decide) rfl ?_
  intro p e s m args below meth c s₁ B hml hv
  obtain ⟨rfl, hsz, hP, hK, hD0⟩ := hv
  subst hsz
  have hD := hD0.self (sz := s.heap.size)
  generalize hAe : va_A [(q_t, .inr (7, [.int t_place, .int t_row, .int t_column, .int t_rows, .int t_value])), (q_a1, .inr (3, [.ref q_a1_cells, .int a1_size])), (q_a1_cells, .inl (G.2 0, 49, .inl a1_cells)), (q_a2, .inr (6, [.ref q_a2_characters, .int a2_length])), (q_a2_characters, .inl (G.2 3, 100, .inl a2_characters))] s.heap.size = A at hD ⊢
  have hA : ∀ q : Nat, s.heap.size ≤ q → A q := fun q h => by rw [← hAe]; exact Or.inr h
  have hl := lv_entry ([.ref q_t, .ref q_a1, .ref q_a2]) (n := 4) (Nat.le_of_ble_eq_true rfl)
  rw [lg_entry_eq]
  refine k_X8_readInto ⟨B.exec, B.bytes, hml, findClass_of_methodNamed B.named, atoms_spec (ws := wsX8_readInto) B.pre⟩ G hK hA q_t q_a1 q_a1_cells q_a2 q_a2_characters _ _ _ _ _ _ _ _ _ _ _ _ _ _ _ _ _ h ?_ _ _ _ hP hD va_S.rf hl
  intro H locs ls pc hd hP hD hS
  exact W.iret B.exec B.bytes B.returns (fun t ht hW => ⟨⟨r, (), rfl, rfl, by rw [ht]; exact hP, hD⟩, hS.F ht⟩) hS.2.2 hd B.notSynchronized
