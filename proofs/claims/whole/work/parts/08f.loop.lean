/-! the law: its loop -/
theorem law_cmp {L k : Nat} (hL : L ≤ 2048) (hk : k ≤ L) (h : ¬ Int32.ofNat L - (4 : Int32) < nI k) : k + 4 ≤ L := by
  refine Decidable.byContradiction fun hc => h ?_
  show nI L - (4 : Int32) < nI k
  by_cases h4 : 4 ≤ L
  · rw [show nI L - (4 : Int32) = nI (L - 4) from pk_sub h4, nI_ltI (by omega) (by omega)]
    omega
  · rw [Int32.lt_iff_toInt_lt, nI_toInt (show k < 2 ^ 31 by omega)]
    have : ∀ n, n < 4 → (nI n - (4 : Int32)).toInt < 0 := by decide
    have := this L (by omega)
    omega
set_option maxHeartbeats 4000000 in
theorem law_exit {p : Program} {l : Launch} {e : Env} {s : State} {m : MethodId} {below : List Frame} {meth : Method} {c : Code} {b L : Nat} {xs : Nat → Int32} (hL : L ≤ 2048) (C0 : lw_At p s m meth c b L xs) {G : GT} (hK : gK G s) {H : Heap} {locs : List Loc} {ls : Array Slot} (hS : va_S (fun q : Nat => s.heap.size ≤ q) s.heap H locs) : W p l e room_1 s m #[Value.ref b] below meth c H locs 54 2021 (lw_Z below #[Value.ref b] s) (F0 m 1039 ls []) := by
  obtain ⟨hx, hb, hr, hml, hown0, hts0, hX, hbl, hlocks, hgv⟩ := C0
  refine lv_iconst (v := 1) hx hb dL_law_1039 (by decide) ?_
  refine va_forget (fun q hq => hS.2.2 q hq) ?_
  refine W.widen (k := 600000) (n := 7302250) (Nat.le_of_ble_eq_true rfl) (Nat.le_of_ble_eq_true rfl) ?_
  exact lw_ret (d0 := s.drawn) (Drawn.sameBut.refl s.drawn lw_cs) hx hb hr hlocks dL_law_1040
set_option maxHeartbeats 4000000 in
set_option maxRecDepth 100000 in
theorem law_step {p : Program} {l : Launch} {e : Env} {s : State} {m : MethodId} {below : List Frame} {meth : Method} {c : Code} {b L : Nat} {xs : Nat → Int32} (hL : L ≤ 2048) (C0 : lw_At p s m meth c b L xs) {G : GT} (hK : gK G s) {k : Nat} (hk : k + 4 ≤ L) {qx qm : Nat} {qa qb : Nat → Nat} {H : Heap} {locs : List Loc} {ls : Array Slot} (hI : LI G (fun q : Nat => s.heap.size ≤ q) H qx qm qa qb) (hS : va_S (fun q : Nat => s.heap.size ≤ q) s.heap H locs) (hl : lv_has ls 4 [(0, .ref b), (1, .ref qx), (2, .ref qm), (3, .int (nI k))]) (T : ∀ (H : Heap) (locs : List Loc), LI G (fun q : Nat => s.heap.size ≤ q) H qx qm qa qb → va_S (fun q : Nat => s.heap.size ≤ q) s.heap H locs → W p l e room_1 s m #[Value.ref b] below meth c H locs 54 2021 (lw_Z below #[Value.ref b] s) (F0 m 1033 ls [])) : W p l e room_1 s m #[Value.ref b] below meth c H locs 54 2021 (lw_Z below #[Value.ref b] s) (F0 m 26 ls []) := by
  obtain ⟨hx, hb, hr, hml, hown0, hts0, hX, hbl, hlocks, hgv⟩ := id C0
  have hb : c.code = cL_law := hb
  have hbA : ¬ (fun q : Nat => s.heap.size ≤ q) b := Nat.not_le.mpr hbl
  refine lv_aload_n hx hb dL_law_26 rfl (lv_at hl 0 rfl) ?_
  refine lv_iload_n hx hb dL_law_27 rfl (lv_at hl 3 rfl) ?_
  refine va_sld hx hb hX hbl hbA hS (vp_in_nI (by omega) (by omega)) dL_law_28 ?_
  refine lv_bipush (v := 63) hx hb dL_law_29 (by decide) ?_
  refine lv_iand hx hb dL_law_31 ?_
  obtain ⟨j, hj, ej⟩ := pk_andE (xs (nI k).toNatClampNeg) (m := (63 : Int32)) 6 (by decide)
  rw [ej]
  have hj : j < 64 := hj
  by_cases h0 : j = 0
  · subst h0
    refine lv_tableIn (tgt := 180) hx hb dL_law_32 (by decide) (by decide) (by rfl) (by decide) ?_
    exact lc_clear hL C0 hK hk hI hS hl T
  by_cases h1 : j = 1
  · subst h1
    refine lv_tableIn (tgt := 203) hx hb dL_law_32 (by decide) (by decide) (by rfl) (by decide) ?_
    exact lc_set hL C0 hK hk hI hS hl T
  by_cases h2 : j = 2
  · subst h2
    refine lv_tableIn (tgt := 246) hx hb dL_law_32 (by decide) (by decide) (by rfl) (by decide) ?_
    exact lc_swapRows hL C0 hK hk hI hS hl T
  by_cases h3 : j = 3
  · subst h3
    refine lv_tableIn (tgt := 279) hx hb dL_law_32 (by decide) (by decide) (by rfl) (by decide) ?_
    exact lc_swapColumns hL C0 hK hk hI hS hl T
  by_cases h4 : j = 4
  · subst h4
    refine lv_tableIn (tgt := 312) hx hb dL_law_32 (by decide) (by decide) (by rfl) (by decide) ?_
    exact lc_transpose hL C0 hK hk hI hS hl T
  by_cases h5 : j = 5
  · subst h5
    refine lv_tableIn (tgt := 325) hx hb dL_law_32 (by decide) (by decide) (by rfl) (by decide) ?_
    exact lc_multiply hL C0 hK hk hI hS hl T
  by_cases h6 : j = 6
  · subst h6
    refine lv_tableIn (tgt := 358) hx hb dL_law_32 (by decide) (by decide) (by rfl) (by decide) ?_
    exact lc_add hL C0 hK hk hI hS hl T
  by_cases h7 : j = 7
  · subst h7
    refine lv_tableIn (tgt := 381) hx hb dL_law_32 (by decide) (by decide) (by rfl) (by decide) ?_
    exact lc_type hL C0 hK hk hI hS hl T
  by_cases h8 : j = 8
  · subst h8
    refine lv_tableIn (tgt := 406) hx hb dL_law_32 (by decide) (by decide) (by rfl) (by decide) ?_
    exact lc_clearText hL C0 hK hk hI hS hl T
  by_cases h9 : j = 9
  · subst h9
    refine lv_tableIn (tgt := 419) hx hb dL_law_32 (by decide) (by decide) (by rfl) (by decide) ?_
    exact lc_read hL C0 hK hk hI hS hl T
  by_cases h10 : j = 10
  · subst h10
    refine lv_tableIn (tgt := 432) hx hb dL_law_32 (by decide) (by decide) (by rfl) (by decide) ?_
    exact lc_undo hL C0 hK hk hI hS hl T
  by_cases h11 : j = 11
  · subst h11
    refine lv_tableIn (tgt := 445) hx hb dL_law_32 (by decide) (by decide) (by rfl) (by decide) ?_
    exact lc_keep hL C0 hK hk hI hS hl T
  by_cases h12 : j = 12
  · subst h12
    refine lv_tableIn (tgt := 458) hx hb dL_law_32 (by decide) (by decide) (by rfl) (by decide) ?_
    exact lc_restore hL C0 hK hk hI hS hl T
  by_cases h13 : j = 13
  · subst h13
    refine lv_tableIn (tgt := 471) hx hb dL_law_32 (by decide) (by decide) (by rfl) (by decide) ?_
    exact lc_entry hL C0 hK hk hI hS hl T
  by_cases h14 : j = 14
  · subst h14
    refine lv_tableIn (tgt := 504) hx hb dL_law_32 (by decide) (by decide) (by rfl) (by decide) ?_
    exact lc_total hL C0 hK hk hI hS hl T
  by_cases h15 : j = 15
  · subst h15
    refine lv_tableIn (tgt := 527) hx hb dL_law_32 (by decide) (by decide) (by rfl) (by decide) ?_
    by_cases hv : xs (nI k + (2 : Int32)).toNatClampNeg = 0
    · exact lc_lineSum0 hL C0 hK hk hv hI hS hl T
    · exact lc_lineSum1 hL C0 hK hk hv hI hS hl T
  by_cases h16 : j = 16
  · subst h16
    refine lv_tableIn (tgt := 576) hx hb dL_law_32 (by decide) (by decide) (by rfl) (by decide) ?_
    exact lc_permanent hL C0 hK hk hI hS hl T
  by_cases h17 : j = 17
  · subst h17
    refine lv_tableIn (tgt := 590) hx hb dL_law_32 (by decide) (by decide) (by rfl) (by decide) ?_
    exact lc_determinant hL C0 hK hk hI hS hl T
  by_cases h18 : j = 18
  · subst h18
    refine lv_tableIn (tgt := 604) hx hb dL_law_32 (by decide) (by decide) (by rfl) (by decide) ?_
    exact lc_minor hL C0 hK hk hI hS hl T
  by_cases h19 : j = 19
  · subst h19
    refine lv_tableIn (tgt := 638) hx hb dL_law_32 (by decide) (by decide) (by rfl) (by decide) ?_
    exact lc_permanentOf hL C0 hK hk hI hS hl T
  by_cases h20 : j = 20
  · subst h20
    refine lv_tableIn (tgt := 672) hx hb dL_law_32 (by decide) (by decide) (by rfl) (by decide) ?_
    exact lc_sumOf hL C0 hK hk hI hS hl T
  by_cases h21 : j = 21
  · subst h21
    refine lv_tableIn (tgt := 696) hx hb dL_law_32 (by decide) (by decide) (by rfl) (by decide) ?_
    exact lc_wholeDiagonals hL C0 hK hk hI hS hl T
  by_cases h22 : j = 22
  · subst h22
    refine lv_tableIn (tgt := 709) hx hb dL_law_32 (by decide) (by decide) (by rfl) (by decide) ?_
    exact lc_wholeDiagonal hL C0 hK hk hI hS hl T
  by_cases h23 : j = 23
  · subst h23
    refine lv_tableIn (tgt := 732) hx hb dL_law_32 (by decide) (by decide) (by rfl) (by decide) ?_
    exact lc_diagonalsThrough hL C0 hK hk hI hS hl T
  by_cases h24 : j = 24
  · subst h24
    refine lv_tableIn (tgt := 765) hx hb dL_law_32 (by decide) (by decide) (by rfl) (by decide) ?_
    exact lc_rooks hL C0 hK hk hI hS hl T
  by_cases h25 : j = 25
  · subst h25
    refine lv_tableIn (tgt := 788) hx hb dL_law_32 (by decide) (by decide) (by rfl) (by decide) ?_
    exact lc_tooFew hL C0 hK hk hI hS hl T
  by_cases h26 : j = 26
  · subst h26
    refine lv_tableIn (tgt := 801) hx hb dL_law_32 (by decide) (by decide) (by rfl) (by decide) ?_
    by_cases hv : xs (nI k + (1 : Int32)).toNatClampNeg = 0
    · exact lc_best0 hL C0 hK hk hv hI hS hl T
    · exact lc_best1 hL C0 hK hk hv hI hS hl T
  by_cases h27 : j = 27
  · subst h27
    refine lv_tableIn (tgt := 840) hx hb dL_law_32 (by decide) (by decide) (by rfl) (by decide) ?_
    by_cases hv : xs (nI k + (1 : Int32)).toNatClampNeg = 0
    · exact lc_nodes0 hL C0 hK hk hv hI hS hl T
    · exact lc_nodes1 hL C0 hK hk hv hI hS hl T
  by_cases h28 : j = 28
  · subst h28
    refine lv_tableIn (tgt := 879) hx hb dL_law_32 (by decide) (by decide) (by rfl) (by decide) ?_
    exact lc_scaledBits hL C0 hK hk hI hS hl T
  by_cases h29 : j = 29
  · subst h29
    refine lv_tableIn (tgt := 923) hx hb dL_law_32 (by decide) (by decide) (by rfl) (by decide) ?_
    exact lc_gapBits hL C0 hK hk hI hS hl T
  by_cases h30 : j = 30
  · subst h30
    refine lv_tableIn (tgt := 947) hx hb dL_law_32 (by decide) (by decide) (by rfl) (by decide) ?_
    exact lc_boundBits hL C0 hK hk hI hS hl T
  by_cases h31 : j = 31
  · subst h31
    refine lv_tableIn (tgt := 971) hx hb dL_law_32 (by decide) (by decide) (by rfl) (by decide) ?_
    by_cases hv : xs (nI k + (2 : Int32)).toNatClampNeg = 0
    · exact lc_part0 hL C0 hK hk hv hI hS hl T
    · exact lc_part1 hL C0 hK hk hv hI hS hl T
  by_cases h32 : j = 32
  · subst h32
    refine lv_tableIn (tgt := 1020) hx hb dL_law_32 (by decide) (by decide) (by rfl) (by decide) ?_
    exact lc_parts hL C0 hK hk hI hS hl T
  refine lv_tableOut (tgt := 1033) hx hb dL_law_32 (by rw [nI_toInt (by omega)]; omega) (by decide) ?_
  exact T H locs hI hS
set_option maxHeartbeats 4000000 in
theorem law_loop {p : Program} {l : Launch} {e : Env} {s : State} {m : MethodId} {below : List Frame} {meth : Method} {c : Code} {b L : Nat} {xs : Nat → Int32} (hL : L ≤ 2048) (C0 : lw_At p s m meth c b L xs) {G : GT} (hK : gK G s) : ∀ (d k : Nat), k ≤ L → L + 1 ≤ k + d → ∀ {qx qm : Nat} {qa qb : Nat → Nat} {H : Heap} {locs : List Loc} {ls : Array Slot} (hI : LI G (fun q : Nat => s.heap.size ≤ q) H qx qm qa qb) (hS : va_S (fun q : Nat => s.heap.size ≤ q) s.heap H locs) (hl : lv_has ls 4 [(0, .ref b), (1, .ref qx), (2, .ref qm), (3, .int (nI k))]), W p l e room_1 s m #[Value.ref b] below meth c H locs 54 2021 (lw_Z below #[Value.ref b] s) (F0 m 18 ls []) := by
  obtain ⟨hx, hb, hr, hml, hown0, hts0, hX, hbl, hlocks, hgv⟩ := id C0
  have hb : c.code = cL_law := hb
  have hbA : ¬ (fun q : Nat => s.heap.size ≤ q) b := Nat.not_le.mpr hbl
  intro d
  induction d with
  | zero =>
    intro k h1 h2
    exact absurd h2 (by omega)
  | succ d ih =>
    intro k h1 h2 qx qm qa qb H locs ls hI hS hl
    refine lv_iload_n hx hb dL_law_18 rfl (lv_at hl 3 rfl) ?_
    refine lv_aload_n hx hb dL_law_19 rfl (lv_at hl 0 rfl) ?_
    refine va_slen hx hb hX hbl hbA hS dL_law_20 ?_
    refine lv_iconst (v := 4) hx hb dL_law_21 (by decide) ?_
    refine lv_isub hx hb dL_law_22 ?_
    refine lv_icmp_gt (tgt := 1039) hx hb dL_law_23 (by decide) (fun c9 => ?_) (fun c9 => ?_)
    · exact law_exit hL C0 hK hS
    · have hk : k + 4 ≤ L := law_cmp hL h1 c9
      refine law_step hL C0 hK hk hI hS hl (fun H locs hI hS => ?_)
      obtain ⟨x3, ex3⟩ : ∃ y : Int32, y = nI k + (4 : Int32) := ⟨_, rfl⟩
      refine lv_iinc (v := x3) (lv' := [(3, .int x3), (0, .ref b), (1, .ref qx), (2, .ref qm)]) hx hb dL_law_1033 hl (k := 3) rfl (by rw [ex3]; rfl) (by decide) rfl (fun ls hl => ?_)
      refine lv_goto (tgt := 18) hx hb dL_law_1036 (by decide) ?_
      rw [show nI k + (4 : Int32) = nI (k + 4) from nI_add k 4] at ex3
      subst ex3
      exact ih (k + 4) hk (by omega) hI hS (lv_sub hl [1, 2, 3, 0] rfl)
