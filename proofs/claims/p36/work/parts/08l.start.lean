/-! the law: from its entry -/
set_option maxRecDepth 20000 in
theorem wl_0 : Cond.classLink RL 12 RX9 ∈ wsL_law := List.mem_of_getElem? (i := 0) (by decide +kernel)
set_option maxRecDepth 20000 in
theorem wl_1 : Cond.instantiable RX9 12 ∈ wsL_law := List.mem_of_getElem? (i := 1) (by decide +kernel)
set_option maxRecDepth 20000 in
theorem wl_2 : Cond.initialized RX9 ∈ wsL_law := List.mem_of_getElem? (i := 2) (by decide +kernel)
set_option maxRecDepth 20000 in
theorem wl_3 : Cond.methodLink RL 135 yX9_init ∈ wsL_law := List.mem_of_getElem? (i := 4) (by decide +kernel)
set_option maxRecDepth 20000 in
theorem wl_4 : Cond.instanceMethod yX9_init ∈ wsL_law := List.mem_of_getElem? (i := 5) (by decide +kernel)
set_option maxRecDepth 20000 in
theorem wl_5 : Cond.instantiable RX0 1 ∈ wsL_law := List.mem_of_getElem? (i := 31) (by decide +kernel)
set_option maxRecDepth 20000 in
theorem wl_6 : Cond.instantiable RX2 1 ∈ wsL_law := List.mem_of_getElem? (i := 35) (by decide +kernel)
set_option maxRecDepth 20000 in
theorem wl_7 : Cond.instantiable RX3 3 ∈ wsL_law := List.mem_of_getElem? (i := 19) (by decide +kernel)
set_option maxRecDepth 20000 in
theorem wl_8 : Cond.instantiable RX4 2 ∈ wsL_law := List.mem_of_getElem? (i := 11) (by decide +kernel)
set_option maxRecDepth 20000 in
theorem wl_9 : Cond.instantiable RX5 4 ∈ wsL_law := List.mem_of_getElem? (i := 39) (by decide +kernel)
set_option maxRecDepth 20000 in
theorem wl_10 : Cond.instantiable RX6 5 ∈ wsL_law := List.mem_of_getElem? (i := 43) (by decide +kernel)
set_option maxRecDepth 20000 in
theorem wl_11 : Cond.instantiable RX7 2 ∈ wsL_law := List.mem_of_getElem? (i := 23) (by decide +kernel)
set_option maxRecDepth 20000 in
theorem wl_12 : Cond.instantiable RX8 5 ∈ wsL_law := List.mem_of_getElem? (i := 27) (by decide +kernel)
set_option maxRecDepth 20000 in
theorem wl_13 : Cond.arrayClass .int ∈ wsL_law := List.mem_of_getElem? (i := 50) (by decide +kernel)
set_option maxRecDepth 20000 in
theorem wl_14 : Cond.arrayClass .long ∈ wsL_law := List.mem_of_getElem? (i := 86) (by decide +kernel)
set_option maxRecDepth 20000 in
theorem wl_15 : Cond.arrayClass .double ∈ wsL_law := List.mem_of_getElem? (i := 97) (by decide +kernel)
set_option maxRecDepth 20000 in
theorem wl_16 : Cond.arrayClass .char ∈ wsL_law := List.mem_of_getElem? (i := 66) (by decide +kernel)
set_option maxRecDepth 20000 in
theorem wl_AO : Cond.arrayOver (.object "PermanentDesk$Matrix") ∈ lw_tbl := List.mem_of_getElem? (i := 59) (by decide +kernel)
theorem ar_int {s : State} {A : Array Value} {ty : FieldType} (hty : ∀ C, ty ≠ .object C) (h : (Cond.arrayClass ty).before A s = true) : ∃ cA, ArrOfT s cA ty ∧ va_RA s cA ty := by
  obtain ⟨cA, kA, comp, h1, h2, h3⟩ := Cond.arrayClass_spec h
  refine ⟨cA, fun n z => ⟨fun k hz => (by cases hz), kA, h2, comp, h3⟩, ?_⟩
  cases ty <;> first | exact absurd rfl (hty _) | exact h1
theorem ar_mat {s : State} {A : Array Value} (h : (Cond.arrayOver (.object "PermanentDesk$Matrix")).before A s = true) : ∃ cA, ArrOfT s cA (.object "PermanentDesk$Matrix") ∧ va_RA s cA (.object "PermanentDesk$Matrix") := by
  obtain ⟨comp, cA, kA, f1, f2, f3, f4, f5⟩ := Cond.arrayOver_spec h
  exact ⟨cA, fun n z => ⟨(fun k h => by cases h), kA, f3, comp, f4⟩, kA, comp, f3, f4, f1, f5⟩
set_option maxHeartbeats 4000000 in
set_option maxRecDepth 100000 in
theorem whole_start {p : Program} {e : Env} {s : State} {m : MethodId} {below : List Frame} {meth : Method} {c : Code} (l : Launch) (hflags : l.flags = flags0) {b L : Nat} {xs : Nat → Int32} (hL : L ≤ 260) (C0 : lw_At p s m meth c b L xs) : W p l e room_1 s m #[Value.ref b] below meth c s.heap [] 0 0 (lw_Z below #[Value.ref b] s) (entryFrame m ([Value.ref b] : List Value).toArray 16) := by
  obtain ⟨hx, hb, hr, hml, hown0, hts0, hX, hbl, hlocks, hgv⟩ := id C0
  have hb : c.code = cL_law := hb
  have hown : s.vm.findClass RL = some m.cls := hown0
  have hts : ∀ w ∈ wsL_law, w.before #[Value.ref b] s = true := fun w h => hts0 w (wsL_law_in w h)
  have hA : ∀ q : Nat, s.heap.size ≤ q → (fun q : Nat => s.heap.size ≤ q) q := fun _ h => h
  have hbA : ¬ (fun q : Nat => s.heap.size ≤ q) b := Nat.not_le.mpr hbl
  obtain ⟨c0, i0, hKn0⟩ := u_known (C := RX0) (T := TX0) (N := 1) (n := 1) hts inlX0 (hts _ wl_5)
  obtain ⟨c1, i1, hKn1⟩ := u_known (C := RX2) (T := TX2) (N := 1) (n := 1) hts inlX2 (hts _ wl_6)
  obtain ⟨c2, i2, hKn2⟩ := u_known (C := RX3) (T := TX3) (N := 3) (n := 3) hts inlX3 (hts _ wl_7)
  obtain ⟨c3, i3, hKn3⟩ := u_known (C := RX4) (T := TX4) (N := 2) (n := 2) hts inlX4 (hts _ wl_8)
  obtain ⟨c4, i4, hKn4⟩ := u_known (C := RX5) (T := TX5) (N := 4) (n := 4) hts inlX5 (hts _ wl_9)
  obtain ⟨c5, i5, hKn5⟩ := u_known (C := RX6) (T := TX6) (N := 5) (n := 5) hts inlX6 (hts _ wl_10)
  obtain ⟨c6, i6, hKn6⟩ := u_known (C := RX7) (T := TX7) (N := 2) (n := 2) hts inlX7 (hts _ wl_11)
  obtain ⟨c7, i7, hKn7⟩ := u_known (C := RX8) (T := TX8) (N := 5) (n := 5) hts inlX8 (hts _ wl_12)
  obtain ⟨c8, i8, hKn8⟩ := u_known (C := RX9) (T := TX9) (N := 12) (n := 12) hts inlX9 (hts _ wl_1)
  obtain ⟨dC, dI, hKc⟩ : ∃ (dC : Nat → ClassId) (dI : Nat → Nat → Nat), ∀ (k : Nat) (q : vw_C), vwCl[k]? = some q → u_Kn s q.1 q.2.1 q.2.2 (dC k) (dI k) := by
    refine ⟨fun k => if k = 0 then c0 else if k = 1 then c1 else if k = 2 then c2 else if k = 3 then c3 else if k = 4 then c4 else if k = 5 then c5 else if k = 6 then c6 else if k = 7 then c7 else c8, fun k => if k = 0 then i0 else if k = 1 then i1 else if k = 2 then i2 else if k = 3 then i3 else if k = 4 then i4 else if k = 5 then i5 else if k = 6 then i6 else if k = 7 then i7 else i8, ?_⟩
    intro k q hq
    match k, hq with
    | 0, hq => cases hq; exact hKn0
    | 1, hq => cases hq; exact hKn1
    | 2, hq => cases hq; exact hKn2
    | 3, hq => cases hq; exact hKn3
    | 4, hq => cases hq; exact hKn4
    | 5, hq => cases hq; exact hKn5
    | 6, hq => cases hq; exact hKn6
    | 7, hq => cases hq; exact hKn7
    | 8, hq => cases hq; exact hKn8
    | k + 9, hq => cases hq
  obtain ⟨a0, ha0⟩ := ar_int (ty := .int) (fun C h => by cases h) (hts _ wl_13)
  obtain ⟨a1, ha1⟩ := ar_int (ty := .long) (fun C h => by cases h) (hts _ wl_14)
  obtain ⟨a2, ha2⟩ := ar_int (ty := .double) (fun C h => by cases h) (hts _ wl_15)
  obtain ⟨a3, ha3⟩ := ar_int (ty := .char) (fun C h => by cases h) (hts _ wl_16)
  obtain ⟨a4, ha4⟩ := ar_mat (hts0 _ wl_AO)
  have hAO : va_AO "PermanentDesk$Matrix" s := va_AO.of (hts0 _ wl_AO)
  obtain ⟨G, hK⟩ : ∃ G : GT, gK G s := by
    refine ⟨((dC, dI), fun k => if k = 0 then a0 else if k = 1 then a1 else if k = 2 then a2 else if k = 3 then a3 else a4), hKc, fun k q h => ?_⟩
    match k, h with
    | 0, h => cases h; exact ha0
    | 1, h => cases h; exact ha1
    | 2, h => cases h; exact ha2
    | 3, h => cases h; exact ha3
    | 4, h => cases h; exact ha4
    | k + 5, h => cases h
  have hS : va_S (fun q : Nat => s.heap.size ≤ q) s.heap s.heap [] := va_S.rf
  have hP : va_P G.1 vwCl [] s.heap := fun k q h => by simp at h
  have hD : va_D (fun q : Nat => s.heap.size ≤ q) [] := ⟨fun i j p q h => by simp at h, fun k q h => by simp at h⟩
  have hl := lv_entry ([.ref b]) (n := 16) (Nat.le_of_ble_eq_true rfl)
  rw [lg_entry_eq]
  generalize (lg_sl ([.ref b]) ++ List.replicate (16 - (lg_sl ([.ref b])).length) Slot.unset).toArray = ls at hl ⊢
  have hl : lv_has ls 16 [(0, .ref b)] := hl
  refine va_new (D := G.1) (ci := 8) (fs := [.null, .null, .null, .null, .int 0, .null, .null, .null, .null, .null, .null, .null]) (C := RX9) (T := TX9) (N := 12) hx hb hts inlX9 tyX9 tyX9_ok hown (hts _ wl_0) (hts _ wl_1) (hts _ wl_2) hK hP hD hS hA rfl (fun j hj => by rcases (show j = 0 ∨ j = 1 ∨ j = 2 ∨ j = 3 ∨ j = 4 ∨ j = 5 ∨ j = 6 ∨ j = 7 ∨ j = 8 ∨ j = 9 ∨ j = 10 ∨ j = 11 by omega) with rfl | rfl | rfl | rfl | rfl | rfl | rfl | rfl | rfl | rfl | rfl | rfl <;> rfl) (Nat.le_of_ble_eq_true rfl) (Nat.le_of_ble_eq_true rfl) dL_law_0 (fun qx H hP hD hS => ?_)
  refine W.widen (k := 1) (n := 12) (Nat.le_of_ble_eq_true rfl) (Nat.le_of_ble_eq_true rfl) ?_
  have hP : va_P G.1 vwCl [(qx, .inr (8, [.null, .null, .null, .null, .int 0, .null, .null, .null, .null, .null, .null, .null]))] H := hP
  have hD : va_D (fun q : Nat => s.heap.size ≤ q) [(qx, .inr (8, [.null, .null, .null, .null, .int 0, .null, .null, .null, .null, .null, .null, .null]))] := hD
  refine lv_dup hx hb dL_law_3 rfl ?_
  refine ck_I (rest := [.ref qx]) ⟨hx, hb, hml, hown, hts⟩ hK hAO hP hD hS hA [0] [] (c_X9_init l G qx _) (cwI 0 hts gL_law_X9_init rfl rfl rfl (hts _ wl_2) (hts _ wl_3) (hts _ wl_4) rfl (by decide +kernel) ⟨Nat.le_of_ble_eq_true rfl, Nat.le_of_ble_eq_true rfl⟩) rfl rfl rfl rfl (by decide) hl.1 rfl (Nat.le_of_ble_eq_true rfl) dL_law_4 ⟨Nat.le_of_ble_eq_true rfl, Nat.le_of_ble_eq_true rfl⟩ (fun qa H locs hP hD hS => ?_)
  refine W.widen (k := 37) (n := 1142) (Nat.le_of_ble_eq_true rfl) (Nat.le_of_ble_eq_true rfl) ?_
  have hP : va_P G.1 vwCl [(qx, .inr (8, [.ref (qa 1), .ref (qa 3), .ref (qa 5), .ref (qa 7), .int 0, .ref (qa 9), .ref (qa 19), .ref (qa 21), .ref (qa 22), .ref (qa 24), .ref (qa 26), .ref (qa 30)])), ((qa 1), .inr (3, [.ref (qa 2), .int 3])), ((qa 2), .inl (G.2 0, 49, .inl (fun _ => 0))), ((qa 3), .inr (3, [.ref (qa 4), .int 3])), ((qa 4), .inl (G.2 0, 49, .inl (fun _ => 0))), ((qa 5), .inr (3, [.ref (qa 6), .int 3])), ((qa 6), .inl (G.2 0, 49, .inl (fun _ => 0))), ((qa 7), .inr (3, [.ref (qa 8), .int 3])), ((qa 8), .inl (G.2 0, 49, .inl (fun _ => 0))), ((qa 9), .inr (2, [.ref (qa 10), .int 0, .int 0])), ((qa 10), .inl (G.2 4, 4, .inr (.inr (.inr (.inr (st4 (qa 11) (qa 13) (qa 15) (qa 17))))))), ((qa 11), .inr (3, [.ref (qa 12), .int 3])), ((qa 12), .inl (G.2 0, 49, .inl (fun _ => 0))), ((qa 13), .inr (3, [.ref (qa 14), .int 3])), ((qa 14), .inl (G.2 0, 49, .inl (fun _ => 0))), ((qa 15), .inr (3, [.ref (qa 16), .int 3])), ((qa 16), .inl (G.2 0, 49, .inl (fun _ => 0))), ((qa 17), .inr (3, [.ref (qa 18), .int 3])), ((qa 18), .inl (G.2 0, 49, .inl (fun _ => 0))), ((qa 19), .inr (6, [.ref (qa 20), .int 0])), ((qa 20), .inl (G.2 3, 100, .inl (fun _ => 0))), ((qa 21), .inr (7, [.int 0, .int 0, .int 0, .int 0, .int 0])), ((qa 22), .inr (0, [.ref (qa 23)])), ((qa 23), .inl (G.2 1, 128, .inr (.inl (fun _ => 0)))), ((qa 24), .inr (1, [.ref (qa 25)])), ((qa 25), .inl (G.2 0, 128, .inl (fun _ => 0))), ((qa 26), .inr (4, [.ref (qa 27), .ref (qa 28), .ref (qa 29), .int 0])), ((qa 27), .inl (G.2 2, 49, .inr (.inr (.inr (.inl (fun _ => 0)))))), ((qa 28), .inl (G.2 2, 7, .inr (.inr (.inr (.inl (fun _ => 0)))))), ((qa 29), .inl (G.2 2, 7, .inr (.inr (.inr (.inl (fun _ => 0)))))), ((qa 30), .inr (5, [.ref (qa 31), .ref (qa 33), .ref (qa 35), .ref (qa 36), .int 0])), ((qa 31), .inr (3, [.ref (qa 32), .int 3])), ((qa 32), .inl (G.2 0, 49, .inl (fun _ => 0))), ((qa 33), .inr (1, [.ref (qa 34)])), ((qa 34), .inl (G.2 0, 128, .inl (fun _ => 0))), ((qa 35), .inl (G.2 0, 49, .inl (fun _ => 0))), ((qa 36), .inl (G.2 0, 49, .inl (fun _ => 0)))] H := hP
  have hD : va_D (fun q : Nat => s.heap.size ≤ q) [(qx, .inr (8, [.ref (qa 1), .ref (qa 3), .ref (qa 5), .ref (qa 7), .int 0, .ref (qa 9), .ref (qa 19), .ref (qa 21), .ref (qa 22), .ref (qa 24), .ref (qa 26), .ref (qa 30)])), ((qa 1), .inr (3, [.ref (qa 2), .int 3])), ((qa 2), .inl (G.2 0, 49, .inl (fun _ => 0))), ((qa 3), .inr (3, [.ref (qa 4), .int 3])), ((qa 4), .inl (G.2 0, 49, .inl (fun _ => 0))), ((qa 5), .inr (3, [.ref (qa 6), .int 3])), ((qa 6), .inl (G.2 0, 49, .inl (fun _ => 0))), ((qa 7), .inr (3, [.ref (qa 8), .int 3])), ((qa 8), .inl (G.2 0, 49, .inl (fun _ => 0))), ((qa 9), .inr (2, [.ref (qa 10), .int 0, .int 0])), ((qa 10), .inl (G.2 4, 4, .inr (.inr (.inr (.inr (st4 (qa 11) (qa 13) (qa 15) (qa 17))))))), ((qa 11), .inr (3, [.ref (qa 12), .int 3])), ((qa 12), .inl (G.2 0, 49, .inl (fun _ => 0))), ((qa 13), .inr (3, [.ref (qa 14), .int 3])), ((qa 14), .inl (G.2 0, 49, .inl (fun _ => 0))), ((qa 15), .inr (3, [.ref (qa 16), .int 3])), ((qa 16), .inl (G.2 0, 49, .inl (fun _ => 0))), ((qa 17), .inr (3, [.ref (qa 18), .int 3])), ((qa 18), .inl (G.2 0, 49, .inl (fun _ => 0))), ((qa 19), .inr (6, [.ref (qa 20), .int 0])), ((qa 20), .inl (G.2 3, 100, .inl (fun _ => 0))), ((qa 21), .inr (7, [.int 0, .int 0, .int 0, .int 0, .int 0])), ((qa 22), .inr (0, [.ref (qa 23)])), ((qa 23), .inl (G.2 1, 128, .inr (.inl (fun _ => 0)))), ((qa 24), .inr (1, [.ref (qa 25)])), ((qa 25), .inl (G.2 0, 128, .inl (fun _ => 0))), ((qa 26), .inr (4, [.ref (qa 27), .ref (qa 28), .ref (qa 29), .int 0])), ((qa 27), .inl (G.2 2, 49, .inr (.inr (.inr (.inl (fun _ => 0)))))), ((qa 28), .inl (G.2 2, 7, .inr (.inr (.inr (.inl (fun _ => 0)))))), ((qa 29), .inl (G.2 2, 7, .inr (.inr (.inr (.inl (fun _ => 0)))))), ((qa 30), .inr (5, [.ref (qa 31), .ref (qa 33), .ref (qa 35), .ref (qa 36), .int 0])), ((qa 31), .inr (3, [.ref (qa 32), .int 3])), ((qa 32), .inl (G.2 0, 49, .inl (fun _ => 0))), ((qa 33), .inr (1, [.ref (qa 34)])), ((qa 34), .inl (G.2 0, 128, .inl (fun _ => 0))), ((qa 35), .inl (G.2 0, 49, .inl (fun _ => 0))), ((qa 36), .inl (G.2 0, 49, .inl (fun _ => 0)))] := hD
  refine lv_astore_n (lv' := [(1, .ref qx), (0, .ref b)]) hx hb dL_law_7 rfl hl (by decide) rfl (fun ls hl => ?_)
  have hC : ([0, 1, 2, 3, 4, 5, 6, 7, 8, 9, 10, 11, 12, 13, 14, 15, 16, 17, 18, 19, 20, 21, 22, 23, 24, 25] : List Nat).map (fun i => ([(qx, .inr (8, [.ref (qa 1), .ref (qa 3), .ref (qa 5), .ref (qa 7), .int 0, .ref (qa 9), .ref (qa 19), .ref (qa 21), .ref (qa 22), .ref (qa 24), .ref (qa 26), .ref (qa 30)])), ((qa 1), .inr (3, [.ref (qa 2), .int 3])), ((qa 2), .inl (G.2 0, 49, .inl (fun _ => 0))), ((qa 3), .inr (3, [.ref (qa 4), .int 3])), ((qa 4), .inl (G.2 0, 49, .inl (fun _ => 0))), ((qa 5), .inr (3, [.ref (qa 6), .int 3])), ((qa 6), .inl (G.2 0, 49, .inl (fun _ => 0))), ((qa 7), .inr (3, [.ref (qa 8), .int 3])), ((qa 8), .inl (G.2 0, 49, .inl (fun _ => 0))), ((qa 9), .inr (2, [.ref (qa 10), .int 0, .int 0])), ((qa 10), .inl (G.2 4, 4, .inr (.inr (.inr (.inr (st4 (qa 11) (qa 13) (qa 15) (qa 17))))))), ((qa 11), .inr (3, [.ref (qa 12), .int 3])), ((qa 12), .inl (G.2 0, 49, .inl (fun _ => 0))), ((qa 13), .inr (3, [.ref (qa 14), .int 3])), ((qa 14), .inl (G.2 0, 49, .inl (fun _ => 0))), ((qa 15), .inr (3, [.ref (qa 16), .int 3])), ((qa 16), .inl (G.2 0, 49, .inl (fun _ => 0))), ((qa 17), .inr (3, [.ref (qa 18), .int 3])), ((qa 18), .inl (G.2 0, 49, .inl (fun _ => 0))), ((qa 19), .inr (6, [.ref (qa 20), .int 0])), ((qa 20), .inl (G.2 3, 100, .inl (fun _ => 0))), ((qa 21), .inr (7, [.int 0, .int 0, .int 0, .int 0, .int 0])), ((qa 22), .inr (0, [.ref (qa 23)])), ((qa 23), .inl (G.2 1, 128, .inr (.inl (fun _ => 0)))), ((qa 24), .inr (1, [.ref (qa 25)])), ((qa 25), .inl (G.2 0, 128, .inl (fun _ => 0))), ((qa 26), .inr (4, [.ref (qa 27), .ref (qa 28), .ref (qa 29), .int 0])), ((qa 27), .inl (G.2 2, 49, .inr (.inr (.inr (.inl (fun _ => 0)))))), ((qa 28), .inl (G.2 2, 7, .inr (.inr (.inr (.inl (fun _ => 0)))))), ((qa 29), .inl (G.2 2, 7, .inr (.inr (.inr (.inl (fun _ => 0)))))), ((qa 30), .inr (5, [.ref (qa 31), .ref (qa 33), .ref (qa 35), .ref (qa 36), .int 0])), ((qa 31), .inr (3, [.ref (qa 32), .int 3])), ((qa 32), .inl (G.2 0, 49, .inl (fun _ => 0))), ((qa 33), .inr (1, [.ref (qa 34)])), ((qa 34), .inl (G.2 0, 128, .inl (fun _ => 0))), ((qa 35), .inl (G.2 0, 49, .inl (fun _ => 0))), ((qa 36), .inl (G.2 0, 49, .inl (fun _ => 0)))] : va_W)[i]?) = ([(qx, .inr (8, [.ref (qa 1), .ref (qa 3), .ref (qa 5), .ref (qa 7), .int (0 : Int32), .ref (qa 9), .ref (qa 19), .ref (qa 21), .ref (qa 22), .ref (qa 24), .ref (qa 26), .ref (qa 30)])), ((qa 1), .inr (3, [.ref (qa 2), .int (3 : Int32)])), ((qa 2), .inl (G.2 0, 49, .inl (fun _ => 0))), ((qa 3), .inr (3, [.ref (qa 4), .int (3 : Int32)])), ((qa 4), .inl (G.2 0, 49, .inl (fun _ => 0))), ((qa 5), .inr (3, [.ref (qa 6), .int (3 : Int32)])), ((qa 6), .inl (G.2 0, 49, .inl (fun _ => 0))), ((qa 7), .inr (3, [.ref (qa 8), .int (3 : Int32)])), ((qa 8), .inl (G.2 0, 49, .inl (fun _ => 0))), ((qa 9), .inr (2, [.ref (qa 10), .int (0 : Int32), .int (0 : Int32)])), ((qa 10), .inl (G.2 4, 4, .inr (.inr (.inr (.inr (st4 (qa 11) (qa 13) (qa 15) (qa 17))))))), ((qa 11), .inr (3, [.ref (qa 12), .int (3 : Int32)])), ((qa 12), .inl (G.2 0, 49, .inl (fun _ => 0))), ((qa 13), .inr (3, [.ref (qa 14), .int (3 : Int32)])), ((qa 14), .inl (G.2 0, 49, .inl (fun _ => 0))), ((qa 15), .inr (3, [.ref (qa 16), .int (3 : Int32)])), ((qa 16), .inl (G.2 0, 49, .inl (fun _ => 0))), ((qa 17), .inr (3, [.ref (qa 18), .int (3 : Int32)])), ((qa 18), .inl (G.2 0, 49, .inl (fun _ => 0))), ((qa 19), .inr (6, [.ref (qa 20), .int (0 : Int32)])), ((qa 20), .inl (G.2 3, 100, .inl (fun _ => 0))), ((qa 21), .inr (7, [.int (0 : Int32), .int (0 : Int32), .int (0 : Int32), .int (0 : Int32), .int (0 : Int32)])), ((qa 22), .inr (0, [.ref (qa 23)])), ((qa 23), .inl (G.2 1, 128, .inr (.inl (fun _ => 0)))), ((qa 24), .inr (1, [.ref (qa 25)])), ((qa 25), .inl (G.2 0, 128, .inl (fun _ => 0)))] : va_W).map some := rfl
  have hPs : va_P G.1 vwCl [(qx, .inr (8, [.ref (qa 1), .ref (qa 3), .ref (qa 5), .ref (qa 7), .int (0 : Int32), .ref (qa 9), .ref (qa 19), .ref (qa 21), .ref (qa 22), .ref (qa 24), .ref (qa 26), .ref (qa 30)])), ((qa 1), .inr (3, [.ref (qa 2), .int (3 : Int32)])), ((qa 2), .inl (G.2 0, 49, .inl (fun _ => 0))), ((qa 3), .inr (3, [.ref (qa 4), .int (3 : Int32)])), ((qa 4), .inl (G.2 0, 49, .inl (fun _ => 0))), ((qa 5), .inr (3, [.ref (qa 6), .int (3 : Int32)])), ((qa 6), .inl (G.2 0, 49, .inl (fun _ => 0))), ((qa 7), .inr (3, [.ref (qa 8), .int (3 : Int32)])), ((qa 8), .inl (G.2 0, 49, .inl (fun _ => 0))), ((qa 9), .inr (2, [.ref (qa 10), .int (0 : Int32), .int (0 : Int32)])), ((qa 10), .inl (G.2 4, 4, .inr (.inr (.inr (.inr (st4 (qa 11) (qa 13) (qa 15) (qa 17))))))), ((qa 11), .inr (3, [.ref (qa 12), .int (3 : Int32)])), ((qa 12), .inl (G.2 0, 49, .inl (fun _ => 0))), ((qa 13), .inr (3, [.ref (qa 14), .int (3 : Int32)])), ((qa 14), .inl (G.2 0, 49, .inl (fun _ => 0))), ((qa 15), .inr (3, [.ref (qa 16), .int (3 : Int32)])), ((qa 16), .inl (G.2 0, 49, .inl (fun _ => 0))), ((qa 17), .inr (3, [.ref (qa 18), .int (3 : Int32)])), ((qa 18), .inl (G.2 0, 49, .inl (fun _ => 0))), ((qa 19), .inr (6, [.ref (qa 20), .int (0 : Int32)])), ((qa 20), .inl (G.2 3, 100, .inl (fun _ => 0))), ((qa 21), .inr (7, [.int (0 : Int32), .int (0 : Int32), .int (0 : Int32), .int (0 : Int32), .int (0 : Int32)])), ((qa 22), .inr (0, [.ref (qa 23)])), ((qa 23), .inl (G.2 1, 128, .inr (.inl (fun _ => 0)))), ((qa 24), .inr (1, [.ref (qa 25)])), ((qa 25), .inl (G.2 0, 128, .inl (fun _ => 0)))] H := hP.sub [0, 1, 2, 3, 4, 5, 6, 7, 8, 9, 10, 11, 12, 13, 14, 15, 16, 17, 18, 19, 20, 21, 22, 23, 24, 25] (fm_of_map _ _ _ hC)
  have hDs : va_D (fun q : Nat => s.heap.size ≤ q) [(qx, .inr (8, [.ref (qa 1), .ref (qa 3), .ref (qa 5), .ref (qa 7), .int (0 : Int32), .ref (qa 9), .ref (qa 19), .ref (qa 21), .ref (qa 22), .ref (qa 24), .ref (qa 26), .ref (qa 30)])), ((qa 1), .inr (3, [.ref (qa 2), .int (3 : Int32)])), ((qa 2), .inl (G.2 0, 49, .inl (fun _ => 0))), ((qa 3), .inr (3, [.ref (qa 4), .int (3 : Int32)])), ((qa 4), .inl (G.2 0, 49, .inl (fun _ => 0))), ((qa 5), .inr (3, [.ref (qa 6), .int (3 : Int32)])), ((qa 6), .inl (G.2 0, 49, .inl (fun _ => 0))), ((qa 7), .inr (3, [.ref (qa 8), .int (3 : Int32)])), ((qa 8), .inl (G.2 0, 49, .inl (fun _ => 0))), ((qa 9), .inr (2, [.ref (qa 10), .int (0 : Int32), .int (0 : Int32)])), ((qa 10), .inl (G.2 4, 4, .inr (.inr (.inr (.inr (st4 (qa 11) (qa 13) (qa 15) (qa 17))))))), ((qa 11), .inr (3, [.ref (qa 12), .int (3 : Int32)])), ((qa 12), .inl (G.2 0, 49, .inl (fun _ => 0))), ((qa 13), .inr (3, [.ref (qa 14), .int (3 : Int32)])), ((qa 14), .inl (G.2 0, 49, .inl (fun _ => 0))), ((qa 15), .inr (3, [.ref (qa 16), .int (3 : Int32)])), ((qa 16), .inl (G.2 0, 49, .inl (fun _ => 0))), ((qa 17), .inr (3, [.ref (qa 18), .int (3 : Int32)])), ((qa 18), .inl (G.2 0, 49, .inl (fun _ => 0))), ((qa 19), .inr (6, [.ref (qa 20), .int (0 : Int32)])), ((qa 20), .inl (G.2 3, 100, .inl (fun _ => 0))), ((qa 21), .inr (7, [.int (0 : Int32), .int (0 : Int32), .int (0 : Int32), .int (0 : Int32), .int (0 : Int32)])), ((qa 22), .inr (0, [.ref (qa 23)])), ((qa 23), .inl (G.2 1, 128, .inr (.inl (fun _ => 0)))), ((qa 24), .inr (1, [.ref (qa 25)])), ((qa 25), .inl (G.2 0, 128, .inl (fun _ => 0)))] := hD.sub [0, 1, 2, 3, 4, 5, 6, 7, 8, 9, 10, 11, 12, 13, 14, 15, 16, 17, 18, 19, 20, 21, 22, 23, 24, 25] (by decide) hC
  obtain ⟨rr, hr9, hr1⟩ := law_c xs hL
  obtain ⟨y0, y1, y2, y3, y4, y5, y6, y7, y8, y9, y10, y11, y12, y13, y14, y15, y16, y17, y18, y19, y20, y21, y22, y23, y24, y25, y26, y27⟩ := rr
  have hr1 : y0 = 1 := hr1
  subst hr1
  refine k_L_law ⟨hx, hb, hml, hown, hts⟩ G hK hA hX hbl hbA qx (qa 1) (qa 3) (qa 5) (qa 7) (qa 9) (qa 19) (qa 21) (qa 22) (qa 24) (qa 26) (qa 30) (qa 2) (qa 4) (qa 6) (qa 8) (qa 10) (qa 11) (qa 13) (qa 15) (qa 17) (qa 12) (qa 14) (qa 16) (qa 18) (qa 20) (qa 23) (qa 25) (0 : Int32) (3 : Int32) (fun _ => 0) (3 : Int32) (fun _ => 0) (3 : Int32) (fun _ => 0) (3 : Int32) (fun _ => 0) (0 : Int32) (0 : Int32) (3 : Int32) (fun _ => 0) (3 : Int32) (fun _ => 0) (3 : Int32) (fun _ => 0) (3 : Int32) (fun _ => 0) (0 : Int32) (fun _ => 0) (0 : Int32) (0 : Int32) (0 : Int32) (0 : Int32) (0 : Int32) (fun _ => 0) (fun _ => 0) 1 y1 y2 y3 y4 y5 y6 y7 y8 y9 y10 y11 y12 y13 y14 y15 y16 y17 y18 y19 y20 y21 y22 y23 y24 y25 y26 y27 hr9 ?_ H locs ls hPs hDs hS (lv_sub hl [1, 0] rfl)
  intro H locs ls pc hd hbo hP hD hS
  refine va_forget (fun q hq => hS.2.2 q hq) ?_
  refine W.widen (k := 600000) (n := 7302250) (Nat.le_of_ble_eq_true rfl) (Nat.le_of_ble_eq_true rfl) ?_
  exact lw_ret hx hb hr hlocks hd
