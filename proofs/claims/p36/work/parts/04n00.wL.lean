set_option maxRecDepth 20000 in
theorem wd_L_seen_1 : Cond.constantLong RL 9 (71) ∈ wsL_seen := List.mem_of_getElem? (i := 1) (by decide +kernel)
set_option maxRecDepth 20000 in
theorem wd_L_seen_2 : Cond.constantLong RL 17 (31) ∈ wsL_seen := List.mem_of_getElem? (i := 2) (by decide +kernel)
def f_L_seen_L1 (a1_matrix_size : Int32) (a1_matrix_cells : Nat → Int32) : (Int64 × Int32) → Option ((Int64 × Int32) ⊕ Int64)
  | (x1, x3) =>
    if (49 : Int32) ≤ x3 then
      some (.inr x1)
    else
      (f_X9_entry a1_matrix_size a1_matrix_cells (x3 / (7 : Int32)) (x3 - x3 / (7 : Int32) * (7 : Int32))).bind (fun r_5 =>
      pl ((((31 : Int64) * x1) + r_5.toInt64) : Int64) (fun x1_7 =>
      pl ((x3 + (1 : Int32)) : Int32) (fun x3_8 =>
      some (.inl (x1_7, x3_8)))))
def f_L_seen (a1_matrix_size : Int32) (a1_matrix_cells : Nat → Int32) (a1_history_count : Int32) (a1_text_length : Int32) : Option Int64 :=
  (f_X9_total a1_matrix_size a1_matrix_cells a1_history_count a1_text_length (0 : Int32)).bind (fun r_1 =>
  pl (((71 : Int64) + r_1.toInt64) : Int64) (fun x1_3 =>
  (lpN (f_L_seen_L1 a1_matrix_size a1_matrix_cells) FU (x1_3, (0 : Int32))).bind (fun x1_9 =>
  some x1_9)))
set_option maxHeartbeats 4000000 in
set_option maxRecDepth 100000 in
theorem l_L_seen_1 {p : Program} {l : Launch} {e : Env} {s : State} {m : MethodId} {args : Array Value} {below : List Frame} {meth : Method} {c : Code} {Q : State → Prop} {A0 : Nat → Prop} {H0 : Heap} (C : CallFix p m c cL_seen 4 s args wsL_seen RL) (G : GT) (hK : gK G s) (hA : ∀ q : Nat, H0.size ≤ q → A0 q) (q_a1 q_a1_matrix q_a1_next q_a1_marks q_a1_kept q_a1_history q_a1_text q_a1_reader q_a1_sums q_a1_endings q_a1_scaling q_a1_takingApart q_a1_matrix_cells q_a1_history_states q_a1_text_characters : Nat) (a1_hasKept : Int32) (a1_matrix_size : Int32) (a1_matrix_cells : Nat → Int32) (a1_history_oldest : Int32) (a1_history_count : Int32) (a1_text_length : Int32) (E_x1 : Int64) (K : ∀ (H : Heap) (locs : List Loc) (ls : Array Slot), va_P G.1 vwCl [(q_a1, .inr (8, [.ref q_a1_matrix, .ref q_a1_next, .ref q_a1_marks, .ref q_a1_kept, .int a1_hasKept, .ref q_a1_history, .ref q_a1_text, .ref q_a1_reader, .ref q_a1_sums, .ref q_a1_endings, .ref q_a1_scaling, .ref q_a1_takingApart])), (q_a1_matrix, .inr (3, [.ref q_a1_matrix_cells, .int a1_matrix_size])), (q_a1_matrix_cells, .inl (G.2 0, 49, .inl a1_matrix_cells)), (q_a1_history, .inr (2, [.ref q_a1_history_states, .int a1_history_oldest, .int a1_history_count])), (q_a1_text, .inr (6, [.ref q_a1_text_characters, .int a1_text_length]))] H → va_D A0 [(q_a1, .inr (8, [.ref q_a1_matrix, .ref q_a1_next, .ref q_a1_marks, .ref q_a1_kept, .int a1_hasKept, .ref q_a1_history, .ref q_a1_text, .ref q_a1_reader, .ref q_a1_sums, .ref q_a1_endings, .ref q_a1_scaling, .ref q_a1_takingApart])), (q_a1_matrix, .inr (3, [.ref q_a1_matrix_cells, .int a1_matrix_size])), (q_a1_matrix_cells, .inl (G.2 0, 49, .inl a1_matrix_cells)), (q_a1_history, .inr (2, [.ref q_a1_history_states, .int a1_history_oldest, .int a1_history_count])), (q_a1_text, .inr (6, [.ref q_a1_text_characters, .int a1_text_length]))] → va_S A0 H0 H locs → lv_has ls 4 [(1, .long E_x1)] → W p l e ({ frames := 5, cells := 0, slots := 0, locals := 109 } : Room) s m args below meth c H locs 0 0 Q (F0 m 45 ls [])) : ∀ (n : Nat) (x1 : Int64) (x3 : Int32), lpN (f_L_seen_L1 a1_matrix_size a1_matrix_cells) n (x1, x3) = some E_x1 → ∀ (H : Heap) (locs : List Loc) (ls : Array Slot), va_P G.1 vwCl [(q_a1, .inr (8, [.ref q_a1_matrix, .ref q_a1_next, .ref q_a1_marks, .ref q_a1_kept, .int a1_hasKept, .ref q_a1_history, .ref q_a1_text, .ref q_a1_reader, .ref q_a1_sums, .ref q_a1_endings, .ref q_a1_scaling, .ref q_a1_takingApart])), (q_a1_matrix, .inr (3, [.ref q_a1_matrix_cells, .int a1_matrix_size])), (q_a1_matrix_cells, .inl (G.2 0, 49, .inl a1_matrix_cells)), (q_a1_history, .inr (2, [.ref q_a1_history_states, .int a1_history_oldest, .int a1_history_count])), (q_a1_text, .inr (6, [.ref q_a1_text_characters, .int a1_text_length]))] H → va_D A0 [(q_a1, .inr (8, [.ref q_a1_matrix, .ref q_a1_next, .ref q_a1_marks, .ref q_a1_kept, .int a1_hasKept, .ref q_a1_history, .ref q_a1_text, .ref q_a1_reader, .ref q_a1_sums, .ref q_a1_endings, .ref q_a1_scaling, .ref q_a1_takingApart])), (q_a1_matrix, .inr (3, [.ref q_a1_matrix_cells, .int a1_matrix_size])), (q_a1_matrix_cells, .inl (G.2 0, 49, .inl a1_matrix_cells)), (q_a1_history, .inr (2, [.ref q_a1_history_states, .int a1_history_oldest, .int a1_history_count])), (q_a1_text, .inr (6, [.ref q_a1_text_characters, .int a1_text_length]))] → va_S A0 H0 H locs → lv_has ls 4 [(0, .ref q_a1), (1, .long x1), (3, .int x3)] → W p l e ({ frames := 5, cells := 0, slots := 0, locals := 109 } : Room) s m args below meth c H locs 0 0 Q (F0 m 13 ls []) := by
  obtain ⟨hx, hb, hml, hown, hts⟩ := C
  intro n
  induction n with
  | zero => intro x1 x3 h; exact absurd h (fun h => lp_0 h)
  | succ n ih =>
    intro x1 x3 h H locs ls hP hD hS hl
    obtain ⟨y, h, hk⟩ := lp_s h
    rw [f_L_seen_L1] at h
    refine lv_iload_n hx hb dL_seen_13 rfl (lv_at hl 2 rfl) ?_
    refine lv_bipush (v := 49) hx hb dL_seen_14 (by decide) ?_
    refine lv_icmp_ge (tgt := 45) hx hb dL_seen_16 (by decide) (fun c_4 => ?_) (fun c_4 => ?_)
    · replace h := it_t h c_4
      obtain rfl := sm1 h
      obtain rfl := sm1 hk
      exact K H locs ls hP hD hS (lv_sub hl [1] rfl)
    · replace h := it_f h c_4
      refine lv_ldc2 (v := 31) hx hb hown (hts _ wd_L_seen_2) dL_seen_19 ?_
      refine lv_lload_n hx hb dL_seen_22 rfl (lv_at hl 1 rfl) ?_
      refine lv_lmul hx hb dL_seen_23 ?_
      refine lv_aload_n hx hb dL_seen_24 rfl (lv_at hl 0 rfl) ?_
      refine lv_iload_n hx hb dL_seen_25 rfl (lv_at hl 2 rfl) ?_
      refine lv_bipush (v := 7) hx hb dL_seen_26 (by decide) ?_
      refine lv_idiv hx hb dL_seen_28 (by decide) ?_
      refine lv_iload_n hx hb dL_seen_29 rfl (lv_at hl 2 rfl) ?_
      refine lv_bipush (v := 7) hx hb dL_seen_30 (by decide) ?_
      refine lv_irem hx hb dL_seen_32 (by decide) ?_
      obtain ⟨r_5, hf_6, h⟩ := bd_ok h
      refine ck_Vi (rest := [.long ((31 : Int64) * x1)]) (wn := [(q_a1, .inr (8, [.ref q_a1_matrix, .ref q_a1_next, .ref q_a1_marks, .ref q_a1_kept, .int a1_hasKept, .ref q_a1_history, .ref q_a1_text, .ref q_a1_reader, .ref q_a1_sums, .ref q_a1_endings, .ref q_a1_scaling, .ref q_a1_takingApart])), (q_a1_matrix, .inr (3, [.ref q_a1_matrix_cells, .int a1_matrix_size])), (q_a1_matrix_cells, .inl (G.2 0, 49, .inl a1_matrix_cells)), (q_a1_history, .inr (2, [.ref q_a1_history_states, .int a1_history_oldest, .int a1_history_count])), (q_a1_text, .inr (6, [.ref q_a1_text_characters, .int a1_text_length]))]) ⟨hx, hb, hml, hown, hts⟩ hK hP hD hS hA [0, 1, 2] [3, 4] [2, 3, 4, 0, 1] (c_X9_entry l G q_a1 q_a1_matrix q_a1_next q_a1_marks q_a1_kept q_a1_history q_a1_text q_a1_reader q_a1_sums q_a1_endings q_a1_scaling q_a1_takingApart q_a1_matrix_cells _ a1_hasKept a1_matrix_size a1_matrix_cells (x3 / (7 : Int32)) (x3 - x3 / (7 : Int32) * (7 : Int32)) _ hf_6) (cwV 2 hts gL_seen_X9_entry rfl rfl rfl (by decide +kernel) ⟨Nat.le_of_ble_eq_true rfl, Nat.le_of_ble_eq_true rfl⟩) rfl rfl rfl rfl rfl rfl (by decide) rfl rfl rfl hl.1 rfl (Nat.le_of_ble_eq_true rfl) dL_seen_33 ⟨Nat.zero_le _, Nat.zero_le _⟩ (fun H locs hP hD hS => ?_)
      refine lv_i2l hx hb dL_seen_36 rfl ?_
      refine lv_ladd hx hb dL_seen_37 ?_
      refine lv_topl (fun x1_7 ex1_7 => ?_)
      replace h := pl_v h ex1_7
      refine lv_lstore_n (lv' := [(1, .long x1_7), (0, .ref q_a1), (3, .int x3)]) hx hb dL_seen_38 rfl hl (by decide) rfl (fun ls hl => ?_)
      obtain ⟨x3_8, ex3_8, h⟩ := pl_ok h
      refine lv_iinc (v := x3_8) (lv' := [(3, .int x3_8), (1, .long x1_7), (0, .ref q_a1)]) hx hb dL_seen_39 hl (k := 2) rfl (by rw [ex3_8]; rfl) (by decide) rfl (fun ls hl => ?_)
      refine lv_goto (tgt := 13) hx hb dL_seen_42 (by decide) ?_
      obtain rfl := sm1 h
      exact ih x1_7 x3_8 hk H locs ls hP hD hS (lv_sub hl [2, 1, 0] rfl)
set_option maxHeartbeats 4000000 in
set_option maxRecDepth 100000 in
theorem k_L_seen {p : Program} {l : Launch} {e : Env} {s : State} {m : MethodId} {args : Array Value} {below : List Frame} {meth : Method} {c : Code} {Q : State → Prop} {A0 : Nat → Prop} {H0 : Heap} (C : CallFix p m c cL_seen 4 s args wsL_seen RL) (G : GT) (hK : gK G s) (hA : ∀ q : Nat, H0.size ≤ q → A0 q) (q_a1 q_a1_matrix q_a1_next q_a1_marks q_a1_kept q_a1_history q_a1_text q_a1_reader q_a1_sums q_a1_endings q_a1_scaling q_a1_takingApart q_a1_matrix_cells q_a1_history_states q_a1_text_characters : Nat) (a1_hasKept : Int32) (a1_matrix_size : Int32) (a1_matrix_cells : Nat → Int32) (a1_history_oldest : Int32) (a1_history_count : Int32) (a1_text_length : Int32) (r : Int64) (h : f_L_seen a1_matrix_size a1_matrix_cells a1_history_count a1_text_length = some r) (KR : ∀ (H : Heap) (locs : List Loc) (ls : Array Slot) (pc : Nat), decode cL_seen pc = .ok (.lreturn, 1) → va_P G.1 vwCl [(q_a1, .inr (8, [.ref q_a1_matrix, .ref q_a1_next, .ref q_a1_marks, .ref q_a1_kept, .int a1_hasKept, .ref q_a1_history, .ref q_a1_text, .ref q_a1_reader, .ref q_a1_sums, .ref q_a1_endings, .ref q_a1_scaling, .ref q_a1_takingApart])), (q_a1_matrix, .inr (3, [.ref q_a1_matrix_cells, .int a1_matrix_size])), (q_a1_matrix_cells, .inl (G.2 0, 49, .inl a1_matrix_cells)), (q_a1_history, .inr (2, [.ref q_a1_history_states, .int a1_history_oldest, .int a1_history_count])), (q_a1_text, .inr (6, [.ref q_a1_text_characters, .int a1_text_length]))] H → va_D A0 [(q_a1, .inr (8, [.ref q_a1_matrix, .ref q_a1_next, .ref q_a1_marks, .ref q_a1_kept, .int a1_hasKept, .ref q_a1_history, .ref q_a1_text, .ref q_a1_reader, .ref q_a1_sums, .ref q_a1_endings, .ref q_a1_scaling, .ref q_a1_takingApart])), (q_a1_matrix, .inr (3, [.ref q_a1_matrix_cells, .int a1_matrix_size])), (q_a1_matrix_cells, .inl (G.2 0, 49, .inl a1_matrix_cells)), (q_a1_history, .inr (2, [.ref q_a1_history_states, .int a1_history_oldest, .int a1_history_count])), (q_a1_text, .inr (6, [.ref q_a1_text_characters, .int a1_text_length]))] → va_S A0 H0 H locs → W p l e ({ frames := 5, cells := 0, slots := 0, locals := 109 } : Room) s m args below meth c H locs 0 0 Q (F0 m pc ls [.long r])) : ∀ (H : Heap) (locs : List Loc) (ls : Array Slot), va_P G.1 vwCl [(q_a1, .inr (8, [.ref q_a1_matrix, .ref q_a1_next, .ref q_a1_marks, .ref q_a1_kept, .int a1_hasKept, .ref q_a1_history, .ref q_a1_text, .ref q_a1_reader, .ref q_a1_sums, .ref q_a1_endings, .ref q_a1_scaling, .ref q_a1_takingApart])), (q_a1_matrix, .inr (3, [.ref q_a1_matrix_cells, .int a1_matrix_size])), (q_a1_matrix_cells, .inl (G.2 0, 49, .inl a1_matrix_cells)), (q_a1_history, .inr (2, [.ref q_a1_history_states, .int a1_history_oldest, .int a1_history_count])), (q_a1_text, .inr (6, [.ref q_a1_text_characters, .int a1_text_length]))] H → va_D A0 [(q_a1, .inr (8, [.ref q_a1_matrix, .ref q_a1_next, .ref q_a1_marks, .ref q_a1_kept, .int a1_hasKept, .ref q_a1_history, .ref q_a1_text, .ref q_a1_reader, .ref q_a1_sums, .ref q_a1_endings, .ref q_a1_scaling, .ref q_a1_takingApart])), (q_a1_matrix, .inr (3, [.ref q_a1_matrix_cells, .int a1_matrix_size])), (q_a1_matrix_cells, .inl (G.2 0, 49, .inl a1_matrix_cells)), (q_a1_history, .inr (2, [.ref q_a1_history_states, .int a1_history_oldest, .int a1_history_count])), (q_a1_text, .inr (6, [.ref q_a1_text_characters, .int a1_text_length]))] → va_S A0 H0 H locs → lv_has ls 4 [(0, .ref q_a1)] → W p l e ({ frames := 5, cells := 0, slots := 0, locals := 109 } : Room) s m args below meth c H locs 0 0 Q (F0 m 0 ls []) := by
  obtain ⟨hx, hb, hml, hown, hts⟩ := C
  intro H locs ls hP hD hS hl
  rw [f_L_seen] at h
  refine lv_ldc2 (v := 71) hx hb hown (hts _ wd_L_seen_1) dL_seen_0 ?_
  refine lv_aload_n hx hb dL_seen_3 rfl (lv_at hl 0 rfl) ?_
  refine lv_iconst (v := 0) hx hb dL_seen_4 (by decide) ?_
  obtain ⟨r_1, hf_2, h⟩ := bd_ok h
  refine ck_Vi (rest := [.long (71 : Int64)]) (wn := [(q_a1, .inr (8, [.ref q_a1_matrix, .ref q_a1_next, .ref q_a1_marks, .ref q_a1_kept, .int a1_hasKept, .ref q_a1_history, .ref q_a1_text, .ref q_a1_reader, .ref q_a1_sums, .ref q_a1_endings, .ref q_a1_scaling, .ref q_a1_takingApart])), (q_a1_matrix, .inr (3, [.ref q_a1_matrix_cells, .int a1_matrix_size])), (q_a1_matrix_cells, .inl (G.2 0, 49, .inl a1_matrix_cells)), (q_a1_history, .inr (2, [.ref q_a1_history_states, .int a1_history_oldest, .int a1_history_count])), (q_a1_text, .inr (6, [.ref q_a1_text_characters, .int a1_text_length]))]) ⟨hx, hb, hml, hown, hts⟩ hK hP hD hS hA [0, 1, 2, 3, 4] [] [0, 1, 2, 3, 4] (c_X9_total l G q_a1 q_a1_matrix q_a1_next q_a1_marks q_a1_kept q_a1_history q_a1_text q_a1_reader q_a1_sums q_a1_endings q_a1_scaling q_a1_takingApart q_a1_matrix_cells q_a1_history_states q_a1_text_characters _ a1_hasKept a1_matrix_size a1_matrix_cells a1_history_oldest a1_history_count a1_text_length (0 : Int32) _ hf_2) (cwV 1 hts gL_seen_X9_total rfl rfl rfl (by decide +kernel) ⟨Nat.le_of_ble_eq_true rfl, Nat.le_of_ble_eq_true rfl⟩) rfl rfl rfl rfl rfl rfl (by decide) rfl rfl rfl hl.1 rfl (Nat.le_of_ble_eq_true rfl) dL_seen_5 ⟨Nat.zero_le _, Nat.zero_le _⟩ (fun H locs hP hD hS => ?_)
  refine lv_i2l hx hb dL_seen_8 rfl ?_
  refine lv_ladd hx hb dL_seen_9 ?_
  refine lv_topl (fun x1_3 ex1_3 => ?_)
  replace h := pl_v h ex1_3
  refine lv_lstore_n (lv' := [(1, .long x1_3), (0, .ref q_a1)]) hx hb dL_seen_10 rfl hl (by decide) rfl (fun ls hl => ?_)
  refine lv_iconst (v := 0) hx hb dL_seen_11 (by decide) ?_
  refine lv_istore_n (lv' := [(3, .int (0 : Int32)), (1, .long x1_3), (0, .ref q_a1)]) hx hb dL_seen_12 rfl hl (by decide) rfl (fun ls hl => ?_)
  obtain ⟨x1_9, hz_11, h⟩ := bd_ok h
  refine l_L_seen_1 ⟨hx, hb, hml, hown, hts⟩ G hK hA q_a1 q_a1_matrix q_a1_next q_a1_marks q_a1_kept q_a1_history q_a1_text q_a1_reader q_a1_sums q_a1_endings q_a1_scaling q_a1_takingApart q_a1_matrix_cells q_a1_history_states q_a1_text_characters a1_hasKept a1_matrix_size a1_matrix_cells a1_history_oldest a1_history_count a1_text_length x1_9 ?_ FU x1_3 (0 : Int32) hz_11 H locs ls hP hD hS (lv_sub hl [2, 1, 0] rfl)
  intro H locs ls hP hD hS hl
  refine lv_lload_n hx hb dL_seen_45 rfl (lv_at hl 0 rfl) ?_
  obtain rfl := sm1 h
  exact KR H locs ls 46 dL_seen_46 hP hD hS
set_option maxHeartbeats 4000000 in
set_option maxRecDepth 100000 in
theorem c_L_seen (l : Launch) (G : GT) (q_a1 q_a1_matrix q_a1_next q_a1_marks q_a1_kept q_a1_history q_a1_text q_a1_reader q_a1_sums q_a1_endings q_a1_scaling q_a1_takingApart q_a1_matrix_cells q_a1_history_states q_a1_text_characters : Nat) (sz : Nat) (a1_hasKept : Int32) (a1_matrix_size : Int32) (a1_matrix_cells : Nat → Int32) (a1_history_oldest : Int32) (a1_history_count : Int32) (a1_text_length : Int32) (r : Int64) (h : f_L_seen a1_matrix_size a1_matrix_cells a1_history_count a1_text_length = some r) : Met l yL_seen wsL_seen ({ frames := 5, cells := 0, slots := 0, locals := 109 } : Room) (va_Pc [.ref q_a1] (pcW G [(q_a1, .inr (8, [.ref q_a1_matrix, .ref q_a1_next, .ref q_a1_marks, .ref q_a1_kept, .int a1_hasKept, .ref q_a1_history, .ref q_a1_text, .ref q_a1_reader, .ref q_a1_sums, .ref q_a1_endings, .ref q_a1_scaling, .ref q_a1_takingApart])), (q_a1_matrix, .inr (3, [.ref q_a1_matrix_cells, .int a1_matrix_size])), (q_a1_matrix_cells, .inl (G.2 0, 49, .inl a1_matrix_cells)), (q_a1_history, .inr (2, [.ref q_a1_history_states, .int a1_history_oldest, .int a1_history_count])), (q_a1_text, .inr (6, [.ref q_a1_text_characters, .int a1_text_length]))] sz)) (va_Ql (fun r9 (_ : Unit) => r9 = r) (fun _ t => atW G (va_A [(q_a1, .inr (8, [.ref q_a1_matrix, .ref q_a1_next, .ref q_a1_marks, .ref q_a1_kept, .int a1_hasKept, .ref q_a1_history, .ref q_a1_text, .ref q_a1_reader, .ref q_a1_sums, .ref q_a1_endings, .ref q_a1_scaling, .ref q_a1_takingApart])), (q_a1_matrix, .inr (3, [.ref q_a1_matrix_cells, .int a1_matrix_size])), (q_a1_matrix_cells, .inl (G.2 0, 49, .inl a1_matrix_cells)), (q_a1_history, .inr (2, [.ref q_a1_history_states, .int a1_history_oldest, .int a1_history_count])), (q_a1_text, .inr (6, [.ref q_a1_text_characters, .int a1_text_length]))] sz) [(q_a1, .inr (8, [.ref q_a1_matrix, .ref q_a1_next, .ref q_a1_marks, .ref q_a1_kept, .int a1_hasKept, .ref q_a1_history, .ref q_a1_text, .ref q_a1_reader, .ref q_a1_sums, .ref q_a1_endings, .ref q_a1_scaling, .ref q_a1_takingApart])), (q_a1_matrix, .inr (3, [.ref q_a1_matrix_cells, .int a1_matrix_size])), (q_a1_matrix_cells, .inl (G.2 0, 49, .inl a1_matrix_cells)), (q_a1_history, .inr (2, [.ref q_a1_history_states, .int a1_history_oldest, .int a1_history_count])), (q_a1_text, .inr (6, [.ref q_a1_text_characters, .int a1_text_length]))] t) (va_A [(q_a1, .inr (8, [.ref q_a1_matrix, .ref q_a1_next, .ref q_a1_marks, .ref q_a1_kept, .int a1_hasKept, .ref q_a1_history, .ref q_a1_text, .ref q_a1_reader, .ref q_a1_sums, .ref q_a1_endings, .ref q_a1_scaling, .ref q_a1_takingApart])), (q_a1_matrix, .inr (3, [.ref q_a1_matrix_cells, .int a1_matrix_size])), (q_a1_matrix_cells, .inl (G.2 0, 49, .inl a1_matrix_cells)), (q_a1_history, .inr (2, [.ref q_a1_history_states, .int a1_history_oldest, .int a1_history_count])), (q_a1_text, .inr (6, [.ref q_a1_text_characters, .int a1_text_length]))] sz)) 0 0 (va_A [(q_a1, .inr (8, [.ref q_a1_matrix, .ref q_a1_next, .ref q_a1_marks, .ref q_a1_kept, .int a1_hasKept, .ref q_a1_history, .ref q_a1_text, .ref q_a1_reader, .ref q_a1_sums, .ref q_a1_endings, .ref q_a1_scaling, .ref q_a1_takingApart])), (q_a1_matrix, .inr (3, [.ref q_a1_matrix_cells, .int a1_matrix_size])), (q_a1_matrix_cells, .inl (G.2 0, 49, .inl a1_matrix_cells)), (q_a1_history, .inr (2, [.ref q_a1_history_states, .int a1_history_oldest, .int a1_history_count])), (q_a1_text, .inr (6, [.ref q_a1_text_characters, .int a1_text_length]))] sz) := by
  refine Met.ofW (cc := cL_seen) (maxL := 4) (ret := (some .long)) (by decide) rfl ?_
  intro p e s m args below meth c s₁ B hml hv
  obtain ⟨rfl, hsz, hP, hK, hD0⟩ := hv
  subst hsz
  have hD := hD0.self (sz := s.heap.size)
  generalize hAe : va_A [(q_a1, .inr (8, [.ref q_a1_matrix, .ref q_a1_next, .ref q_a1_marks, .ref q_a1_kept, .int a1_hasKept, .ref q_a1_history, .ref q_a1_text, .ref q_a1_reader, .ref q_a1_sums, .ref q_a1_endings, .ref q_a1_scaling, .ref q_a1_takingApart])), (q_a1_matrix, .inr (3, [.ref q_a1_matrix_cells, .int a1_matrix_size])), (q_a1_matrix_cells, .inl (G.2 0, 49, .inl a1_matrix_cells)), (q_a1_history, .inr (2, [.ref q_a1_history_states, .int a1_history_oldest, .int a1_history_count])), (q_a1_text, .inr (6, [.ref q_a1_text_characters, .int a1_text_length]))] s.heap.size = A at hD ⊢
  have hA : ∀ q : Nat, s.heap.size ≤ q → A q := fun q h => by rw [← hAe]; exact Or.inr h
  have hl := lv_entry ([.ref q_a1]) (n := 4) (Nat.le_of_ble_eq_true rfl)
  rw [lg_entry_eq]
  refine k_L_seen ⟨B.exec, B.bytes, hml, findClass_of_methodNamed B.named, atoms_spec (ws := wsL_seen) B.pre⟩ G hK hA q_a1 q_a1_matrix q_a1_next q_a1_marks q_a1_kept q_a1_history q_a1_text q_a1_reader q_a1_sums q_a1_endings q_a1_scaling q_a1_takingApart q_a1_matrix_cells q_a1_history_states q_a1_text_characters _ _ _ _ _ _ _ h ?_ _ _ _ hP hD va_S.rf hl
  intro H locs ls pc hd hP hD hS
  exact W.lret B.exec B.bytes B.returns (fun t ht hW => ⟨⟨r, (), rfl, rfl, by rw [ht]; exact hP, hD⟩, hS.F ht⟩) hS.2.2 hd B.notSynchronized
