set_option maxRecDepth 20000 in
theorem wd_X1_join_5 : Cond.constantLong RX1 25 (4503599627370496) ∈ wsX1_join := List.mem_of_getElem? (i := 5) (by decide +kernel)
set_option maxRecDepth 20000 in
theorem wd_X1_join_1 : Cond.methodLink RX1 19 Lib.Math.min.name ∈ wsX1_join := List.mem_of_getElem? (i := 1) (by decide +kernel)
set_option maxRecDepth 20000 in
theorem wd_X1_join_2 : Cond.static Lib.Math.min.name ∈ wsX1_join := List.mem_of_getElem? (i := 2) (by decide +kernel)
set_option maxRecDepth 20000 in
theorem wd_X1_join_3 : Cond.initialized "java/lang/Math" ∈ wsX1_join := List.mem_of_getElem? (i := 3) (by decide +kernel)
set_option maxRecDepth 20000 in
theorem wd_X1_join_4 : Cond.code Lib.Math.min.name Lib.Math.min.code 2 (some .int) ∈ wsX1_join := List.mem_of_getElem? (i := 4) (by decide +kernel)
def f_X1_join (a1 : Int32) (a2 : Int64) : Option Int64 :=
  if (1 : Int32) ≤ a1 then
    some ((a1.toInt64 <<< ((52 : Int32).toInt64 &&& 63)) + (a2 - (4503599627370496 : Int64)))
  else
    some (a2 >>> ((if (53 : Int32) < ((1 : Int32) - a1) then (53 : Int32) else ((1 : Int32) - a1)).toInt64 &&& 63))
set_option maxHeartbeats 4000000 in
set_option maxRecDepth 100000 in
theorem k_X1_join {p : Program} {l : Launch} {e : Env} {s : State} {m : MethodId} {args : Array Value} {below : List Frame} {meth : Method} {c : Code} {Q : State → Prop} {A0 : Nat → Prop} {H0 : Heap} (C : CallFix p m c cX1_join 3 s args wsX1_join RX1) (G : GT) (hK : gK G s) (hA : ∀ q : Nat, H0.size ≤ q → A0 q) (a1 : Int32) (a2 : Int64) (r : Int64) (h : f_X1_join a1 a2 = some r) (KR : ∀ (H : Heap) (locs : List Loc) (ls : Array Slot) (pc : Nat), decode cX1_join pc = .ok (.lreturn, 1) → va_P G.1 vwCl [] H → va_D A0 [] → va_S A0 H0 H locs → W p l e ({ frames := 1, cells := 0, slots := 0, locals := 60 } : Room) s m args below meth c H locs 0 0 Q (F0 m pc ls [.long r])) : ∀ (H : Heap) (locs : List Loc) (ls : Array Slot), va_P G.1 vwCl [] H → va_D A0 [] → va_S A0 H0 H locs → lv_has ls 3 [(0, .int a1), (1, .long a2)] → W p l e ({ frames := 1, cells := 0, slots := 0, locals := 60 } : Room) s m args below meth c H locs 0 0 Q (F0 m 0 ls []) := by
  obtain ⟨hx, hb, hml, hown, hts⟩ := C
  intro H locs ls hP hD hS hl
  rw [f_X1_join] at h
  refine lv_iload_n hx hb dX1_join_0 rfl (lv_at hl 0 rfl) ?_
  refine lv_iconst (v := 1) hx hb dX1_join_1 (by decide) ?_
  refine lv_icmp_ge (tgt := 16) hx hb dX1_join_2 (by decide) (fun c_1 => ?_) (fun c_1 => ?_)
  · replace h := it_t h c_1
    refine lv_iload_n hx hb dX1_join_16 rfl (lv_at hl 0 rfl) ?_
    refine lv_i2l hx hb dX1_join_17 rfl ?_
    refine lv_bipush (v := 52) hx hb dX1_join_18 (by decide) ?_
    refine lv_lshl hx hb dX1_join_20 rfl ?_
    refine lv_lload_n hx hb dX1_join_21 rfl (lv_at hl 1 rfl) ?_
    refine lv_ldc2 (v := 4503599627370496) hx hb hown (hts _ wd_X1_join_5) dX1_join_22 ?_
    refine lv_lsub hx hb dX1_join_25 ?_
    refine lv_ladd hx hb dX1_join_26 ?_
    obtain rfl := sm1 h
    exact KR H locs ls 27 dX1_join_27 hP hD hS
  · replace h := it_f h c_1
    refine lv_lload_n hx hb dX1_join_5 rfl (lv_at hl 1 rfl) ?_
    refine lv_iconst (v := 1) hx hb dX1_join_6 (by decide) ?_
    refine lv_iload_n hx hb dX1_join_7 rfl (lv_at hl 0 rfl) ?_
    refine lv_isub hx hb dX1_join_8 ?_
    refine lv_bipush (v := 53) hx hb dX1_join_9 (by decide) ?_
    refine va_mmin hx hb (hml.trans hl.1.symm) hown (hts _ wd_X1_join_1) (hts _ wd_X1_join_2) (hts _ wd_X1_join_3) (hts _ wd_X1_join_4) (Nat.le_of_ble_eq_true rfl) (Nat.le_of_ble_eq_true rfl) (Nat.zero_le _) (Nat.zero_le _) dX1_join_11 ?_
    refine lv_lshr hx hb dX1_join_14 rfl ?_
    obtain rfl := sm1 h
    exact KR H locs ls 15 dX1_join_15 hP hD hS
set_option maxHeartbeats 4000000 in
set_option maxRecDepth 100000 in
theorem c_X1_join (l : Launch) (G : GT) (sz : Nat) (a1 : Int32) (a2 : Int64) (r : Int64) (h : f_X1_join a1 a2 = some r) : Met l yX1_join wsX1_join ({ frames := 1, cells := 0, slots := 0, locals := 60 } : Room) (va_Pc [.int a1, .long a2] (pcW G [] sz)) (va_Ql (fun r9 (_ : Unit) => r9 = r) (fun _ t => atW G (va_A [] sz) [] t) (va_A [] sz)) 0 0 (va_A [] sz) := by
  refine Met.ofW (cc := cX1_join) (maxL := 3) (ret := (some .long)) (by decide) rfl ?_
  intro p e s m args below meth c s₁ B hml hv
  obtain ⟨rfl, hsz, hP, hK, hD0⟩ := hv
  subst hsz
  have hD := hD0.self (sz := s.heap.size)
  generalize hAe : va_A [] s.heap.size = A at hD ⊢
  have hA : ∀ q : Nat, s.heap.size ≤ q → A q := fun q h => by rw [← hAe]; exact Or.inr h
  have hl := lv_entry ([.int a1, .long a2]) (n := 3) (Nat.le_of_ble_eq_true rfl)
  rw [lg_entry_eq]
  refine k_X1_join ⟨B.exec, B.bytes, hml, findClass_of_methodNamed B.named, atoms_spec (ws := wsX1_join) B.pre⟩ G hK hA _ _ _ h ?_ _ _ _ hP hD va_S.rf hl
  intro H locs ls pc hd hP hD hS
  exact W.lret B.exec B.bytes B.returns (fun t ht hW => ⟨⟨r, (), rfl, rfl, by rw [ht]; exact hP, hD⟩, hS.F ht⟩) hS.2.2 hd B.notSynchronized
set_option maxRecDepth 20000 in
theorem wd_X1_of_1 : Cond.constantDouble RX1 9 (4751297606875873280) ∈ wsX1_of := List.mem_of_getElem? (i := 1) (by decide +kernel)
set_option maxRecDepth 20000 in
theorem wd_X1_of_2 : Cond.constantDouble RX1 11 (4611686018427387904) ∈ wsX1_of := List.mem_of_getElem? (i := 2) (by decide +kernel)
set_option maxRecDepth 20000 in
theorem wd_X1_of_3 : Cond.constantDouble RX1 13 (4841369599423283200) ∈ wsX1_of := List.mem_of_getElem? (i := 3) (by decide +kernel)
def f_X1_of_L1  : (UInt64 × Int32 × Int32) → Option ((UInt64 × Int32 × Int32) ⊕ (UInt64 × Int32))
  | (x2, x4, x5) =>
    if (40 : Int32) ≤ x5 then
      some (.inr (x2, x4))
    else
      if (Op.cmpValue (FP.dcmp x2 (4751297606875873280 : UInt64)) .l) < 0 then
        some (.inr (x2, x4))
      else
        gd (okD (FP.ddiv x2 (4751297606875873280 : UInt64))) (
        pl ((FP.ddiv x2 (4751297606875873280 : UInt64)) : UInt64) (fun x2_5 =>
        pl ((x4 + (32 : Int32)) : Int32) (fun x4_6 =>
        pl ((x5 + (1 : Int32)) : Int32) (fun x5_7 =>
        some (.inl (x2_5, x4_6, x5_7))))))
def f_X1_of_L2  : (UInt64 × Int32 × Int32) → Option ((UInt64 × Int32 × Int32) ⊕ (UInt64 × Int32))
  | (x2, x4, x5) =>
    if (40 : Int32) ≤ x5 then
      some (.inr (x2, x4))
    else
      gd (okD (FP.dmul x2 (4751297606875873280 : UInt64))) (
      if 0 ≤ (Op.cmpValue (FP.dcmp (FP.dmul x2 (4751297606875873280 : UInt64)) FP.dconst1) .g) then
        some (.inr (x2, x4))
      else
        gd (okD (FP.dmul x2 (4751297606875873280 : UInt64))) (
        pl ((FP.dmul x2 (4751297606875873280 : UInt64)) : UInt64) (fun x2_16 =>
        pl ((x4 + (-32 : Int32)) : Int32) (fun x4_17 =>
        pl ((x5 + (1 : Int32)) : Int32) (fun x5_18 =>
        some (.inl (x2_16, x4_17, x5_18)))))))
def f_X1_of_L3  : (UInt64 × Int32 × Int32) → Option ((UInt64 × Int32 × Int32) ⊕ (UInt64 × Int32))
  | (x2, x4, x5) =>
    if (40 : Int32) ≤ x5 then
      some (.inr (x2, x4))
    else
      if (Op.cmpValue (FP.dcmp x2 (4611686018427387904 : UInt64)) .l) < 0 then
        some (.inr (x2, x4))
      else
        gd (okD (FP.ddiv x2 (4611686018427387904 : UInt64))) (
        pl ((FP.ddiv x2 (4611686018427387904 : UInt64)) : UInt64) (fun x2_26 =>
        pl ((x4 + (1 : Int32)) : Int32) (fun x4_27 =>
        pl ((x5 + (1 : Int32)) : Int32) (fun x5_28 =>
        some (.inl (x2_26, x4_27, x5_28))))))
def f_X1_of_L4  : (UInt64 × Int32 × Int32) → Option ((UInt64 × Int32 × Int32) ⊕ (UInt64 × Int32))
  | (x2, x4, x5) =>
    if (40 : Int32) ≤ x5 then
      some (.inr (x2, x4))
    else
      if 0 ≤ (Op.cmpValue (FP.dcmp x2 FP.dconst1) .g) then
        some (.inr (x2, x4))
      else
        gd (okD (FP.dmul x2 (4611686018427387904 : UInt64))) (
        pl ((FP.dmul x2 (4611686018427387904 : UInt64)) : UInt64) (fun x2_36 =>
        pl ((x4 + (-1 : Int32)) : Int32) (fun x4_37 =>
        pl ((x5 + (1 : Int32)) : Int32) (fun x5_38 =>
        some (.inl (x2_36, x4_37, x5_38))))))
def f_X1_of (a1 : UInt64) : Option Int64 :=
  if 0 < (Op.cmpValue (FP.dcmp a1 FP.dconst0) .l) then
    (lpN (f_X1_of_L1) FU (a1, (1023 : Int32), (0 : Int32))).bind (fun (x2_8, x4_9) =>
    (lpN (f_X1_of_L2) FU (x2_8, x4_9, (0 : Int32))).bind (fun (x2_19, x4_20) =>
    (lpN (f_X1_of_L3) FU (x2_19, x4_20, (0 : Int32))).bind (fun (x2_29, x4_30) =>
    (lpN (f_X1_of_L4) FU (x2_29, x4_30, (0 : Int32))).bind (fun (x2_39, x4_40) =>
    gd (okD (FP.dmul x2_39 (4841369599423283200 : UInt64))) (
    (f_X1_join x4_40 (FP.d2l (FP.dmul x2_39 (4841369599423283200 : UInt64)))).bind (fun r_44 =>
    some r_44))))))
  else
    some (0 : Int64)
set_option maxHeartbeats 4000000 in
set_option maxRecDepth 100000 in
theorem l_X1_of_1 {p : Program} {l : Launch} {e : Env} {s : State} {m : MethodId} {args : Array Value} {below : List Frame} {meth : Method} {c : Code} {Q : State → Prop} {A0 : Nat → Prop} {H0 : Heap} (C : CallFix p m c cX1_of 6 s args wsX1_of RX1) (G : GT) (hK : gK G s) (hA : ∀ q : Nat, H0.size ≤ q → A0 q) (E_x2 : UInt64) (E_x4 : Int32) (K : ∀ (H : Heap) (locs : List Loc) (ls : Array Slot), va_P G.1 vwCl [] H → va_D A0 [] → va_S A0 H0 H locs → lv_has ls 6 [(2, .double E_x2), (4, .int E_x4)] → W p l e ({ frames := 2, cells := 0, slots := 0, locals := 82 } : Room) s m args below meth c H locs 0 0 Q (F0 m 48 ls [])) : ∀ (n : Nat) (x2 : UInt64) (x4 : Int32) (x5 : Int32), lpN (f_X1_of_L1) n (x2, x4, x5) = some (E_x2, E_x4) → ∀ (H : Heap) (locs : List Loc) (ls : Array Slot), va_P G.1 vwCl [] H → va_D A0 [] → va_S A0 H0 H locs → lv_has ls 6 [(2, .double x2), (4, .int x4), (5, .int x5)] → W p l e ({ frames := 2, cells := 0, slots := 0, locals := 82 } : Room) s m args below meth c H locs 0 0 Q (F0 m 18 ls []) := by
  obtain ⟨hx, hb, hml, hown, hts⟩ := C
  intro n
  induction n with
  | zero => intro x2 x4 x5 h; exact absurd h (fun h => lp_0 h)
  | succ n ih =>
    intro x2 x4 x5 h H locs ls hP hD hS hl
    obtain ⟨y, h, hk⟩ := lp_s h
    rw [f_X1_of_L1] at h
    refine lv_iload hx hb dX1_of_18 (lv_at hl 2 rfl) ?_
    refine lv_bipush (v := 40) hx hb dX1_of_20 (by decide) ?_
    refine lv_icmp_ge (tgt := 48) hx hb dX1_of_22 (by decide) (fun c_2 => ?_) (fun c_2 => ?_)
    · replace h := it_t h c_2
      obtain rfl := sm1 h
      obtain ⟨rfl, rfl⟩ := sm2 hk
      exact K H locs ls hP hD hS (lv_sub hl [0, 1] rfl)
    · replace h := it_f h c_2
      refine lv_dload_n hx hb dX1_of_25 rfl (lv_at hl 0 rfl) ?_
      refine lv_ldc2d (v := 4751297606875873280) hx hb hown (hts _ wd_X1_of_1) dX1_of_26 ?_
      refine lv_dcmp hx hb dX1_of_29 ?_
      refine lv_if_lt (tgt := 48) hx hb dX1_of_30 (by decide) (fun c_3 => ?_) (fun c_3 => ?_)
      · replace h := it_t h c_3
        obtain rfl := sm1 h
        obtain ⟨rfl, rfl⟩ := sm2 hk
        exact K H locs ls hP hD hS (lv_sub hl [0, 1] rfl)
      · replace h := it_f h c_3
        refine lv_dload_n hx hb dX1_of_33 rfl (lv_at hl 0 rfl) ?_
        refine lv_ldc2d (v := 4751297606875873280) hx hb hown (hts _ wd_X1_of_1) dX1_of_34 ?_
        obtain ⟨g_4, h⟩ := gd_ok h
        refine lv_ddiv hx hb dX1_of_37 g_4 ?_
        refine lv_topd (fun x2_5 ex2_5 => ?_)
        replace h := pl_v h ex2_5
        refine lv_dstore_n (lv' := [(2, .double x2_5), (4, .int x4), (5, .int x5)]) hx hb dX1_of_38 rfl hl (by decide) rfl (fun ls hl => ?_)
        obtain ⟨x4_6, ex4_6, h⟩ := pl_ok h
        refine lv_iinc (v := x4_6) (lv' := [(4, .int x4_6), (2, .double x2_5), (5, .int x5)]) hx hb dX1_of_39 hl (k := 1) rfl (by rw [ex4_6]; rfl) (by decide) rfl (fun ls hl => ?_)
        obtain ⟨x5_7, ex5_7, h⟩ := pl_ok h
        refine lv_iinc (v := x5_7) (lv' := [(5, .int x5_7), (4, .int x4_6), (2, .double x2_5)]) hx hb dX1_of_42 hl (k := 2) rfl (by rw [ex5_7]; rfl) (by decide) rfl (fun ls hl => ?_)
        refine lv_goto (tgt := 18) hx hb dX1_of_45 (by decide) ?_
        obtain rfl := sm1 h
        exact ih x2_5 x4_6 x5_7 hk H locs ls hP hD hS (lv_sub hl [2, 1, 0] rfl)
set_option maxHeartbeats 4000000 in
set_option maxRecDepth 100000 in
theorem l_X1_of_2 {p : Program} {l : Launch} {e : Env} {s : State} {m : MethodId} {args : Array Value} {below : List Frame} {meth : Method} {c : Code} {Q : State → Prop} {A0 : Nat → Prop} {H0 : Heap} (C : CallFix p m c cX1_of 6 s args wsX1_of RX1) (G : GT) (hK : gK G s) (hA : ∀ q : Nat, H0.size ≤ q → A0 q) (E_x2 : UInt64) (E_x4 : Int32) (K : ∀ (H : Heap) (locs : List Loc) (ls : Array Slot), va_P G.1 vwCl [] H → va_D A0 [] → va_S A0 H0 H locs → lv_has ls 6 [(2, .double E_x2), (4, .int E_x4)] → W p l e ({ frames := 2, cells := 0, slots := 0, locals := 82 } : Room) s m args below meth c H locs 0 0 Q (F0 m 83 ls [])) : ∀ (n : Nat) (x2 : UInt64) (x4 : Int32) (x5 : Int32), lpN (f_X1_of_L2) n (x2, x4, x5) = some (E_x2, E_x4) → ∀ (H : Heap) (locs : List Loc) (ls : Array Slot), va_P G.1 vwCl [] H → va_D A0 [] → va_S A0 H0 H locs → lv_has ls 6 [(2, .double x2), (4, .int x4), (5, .int x5)] → W p l e ({ frames := 2, cells := 0, slots := 0, locals := 82 } : Room) s m args below meth c H locs 0 0 Q (F0 m 51 ls []) := by
  obtain ⟨hx, hb, hml, hown, hts⟩ := C
  intro n
  induction n with
  | zero => intro x2 x4 x5 h; exact absurd h (fun h => lp_0 h)
  | succ n ih =>
    intro x2 x4 x5 h H locs ls hP hD hS hl
    obtain ⟨y, h, hk⟩ := lp_s h
    rw [f_X1_of_L2] at h
    refine lv_iload hx hb dX1_of_51 (lv_at hl 2 rfl) ?_
    refine lv_bipush (v := 40) hx hb dX1_of_53 (by decide) ?_
    refine lv_icmp_ge (tgt := 83) hx hb dX1_of_55 (by decide) (fun c_12 => ?_) (fun c_12 => ?_)
    · replace h := it_t h c_12
      obtain rfl := sm1 h
      obtain ⟨rfl, rfl⟩ := sm2 hk
      exact K H locs ls hP hD hS (lv_sub hl [0, 1] rfl)
    · replace h := it_f h c_12
      refine lv_dload_n hx hb dX1_of_58 rfl (lv_at hl 0 rfl) ?_
      refine lv_ldc2d (v := 4751297606875873280) hx hb hown (hts _ wd_X1_of_1) dX1_of_59 ?_
      obtain ⟨g_13, h⟩ := gd_ok h
      refine lv_dmul hx hb dX1_of_62 g_13 ?_
      refine lv_dconst1 hx hb dX1_of_63 ?_
      refine lv_dcmp hx hb dX1_of_64 ?_
      refine lv_if_ge (tgt := 83) hx hb dX1_of_65 (by decide) (fun c_14 => ?_) (fun c_14 => ?_)
      · replace h := it_t h c_14
        obtain rfl := sm1 h
        obtain ⟨rfl, rfl⟩ := sm2 hk
        exact K H locs ls hP hD hS (lv_sub hl [0, 1] rfl)
      · replace h := it_f h c_14
        refine lv_dload_n hx hb dX1_of_68 rfl (lv_at hl 0 rfl) ?_
        refine lv_ldc2d (v := 4751297606875873280) hx hb hown (hts _ wd_X1_of_1) dX1_of_69 ?_
        obtain ⟨g_15, h⟩ := gd_ok h
        refine lv_dmul hx hb dX1_of_72 g_15 ?_
        refine lv_topd (fun x2_16 ex2_16 => ?_)
        replace h := pl_v h ex2_16
        refine lv_dstore_n (lv' := [(2, .double x2_16), (4, .int x4), (5, .int x5)]) hx hb dX1_of_73 rfl hl (by decide) rfl (fun ls hl => ?_)
        obtain ⟨x4_17, ex4_17, h⟩ := pl_ok h
        refine lv_iinc (v := x4_17) (lv' := [(4, .int x4_17), (2, .double x2_16), (5, .int x5)]) hx hb dX1_of_74 hl (k := 1) rfl (by rw [ex4_17]; rfl) (by decide) rfl (fun ls hl => ?_)
        obtain ⟨x5_18, ex5_18, h⟩ := pl_ok h
        refine lv_iinc (v := x5_18) (lv' := [(5, .int x5_18), (4, .int x4_17), (2, .double x2_16)]) hx hb dX1_of_77 hl (k := 2) rfl (by rw [ex5_18]; rfl) (by decide) rfl (fun ls hl => ?_)
        refine lv_goto (tgt := 51) hx hb dX1_of_80 (by decide) ?_
        obtain rfl := sm1 h
        exact ih x2_16 x4_17 x5_18 hk H locs ls hP hD hS (lv_sub hl [2, 1, 0] rfl)
set_option maxHeartbeats 4000000 in
set_option maxRecDepth 100000 in
theorem l_X1_of_3 {p : Program} {l : Launch} {e : Env} {s : State} {m : MethodId} {args : Array Value} {below : List Frame} {meth : Method} {c : Code} {Q : State → Prop} {A0 : Nat → Prop} {H0 : Heap} (C : CallFix p m c cX1_of 6 s args wsX1_of RX1) (G : GT) (hK : gK G s) (hA : ∀ q : Nat, H0.size ≤ q → A0 q) (E_x2 : UInt64) (E_x4 : Int32) (K : ∀ (H : Heap) (locs : List Loc) (ls : Array Slot), va_P G.1 vwCl [] H → va_D A0 [] → va_S A0 H0 H locs → lv_has ls 6 [(2, .double E_x2), (4, .int E_x4)] → W p l e ({ frames := 2, cells := 0, slots := 0, locals := 82 } : Room) s m args below meth c H locs 0 0 Q (F0 m 116 ls [])) : ∀ (n : Nat) (x2 : UInt64) (x4 : Int32) (x5 : Int32), lpN (f_X1_of_L3) n (x2, x4, x5) = some (E_x2, E_x4) → ∀ (H : Heap) (locs : List Loc) (ls : Array Slot), va_P G.1 vwCl [] H → va_D A0 [] → va_S A0 H0 H locs → lv_has ls 6 [(2, .double x2), (4, .int x4), (5, .int x5)] → W p l e ({ frames := 2, cells := 0, slots := 0, locals := 82 } : Room) s m args below meth c H locs 0 0 Q (F0 m 86 ls []) := by
  obtain ⟨hx, hb, hml, hown, hts⟩ := C
  intro n
  induction n with
  | zero => intro x2 x4 x5 h; exact absurd h (fun h => lp_0 h)
  | succ n ih =>
    intro x2 x4 x5 h H locs ls hP hD hS hl
    obtain ⟨y, h, hk⟩ := lp_s h
    rw [f_X1_of_L3] at h
    refine lv_iload hx hb dX1_of_86 (lv_at hl 2 rfl) ?_
    refine lv_bipush (v := 40) hx hb dX1_of_88 (by decide) ?_
    refine lv_icmp_ge (tgt := 116) hx hb dX1_of_90 (by decide) (fun c_23 => ?_) (fun c_23 => ?_)
    · replace h := it_t h c_23
      obtain rfl := sm1 h
      obtain ⟨rfl, rfl⟩ := sm2 hk
      exact K H locs ls hP hD hS (lv_sub hl [0, 1] rfl)
    · replace h := it_f h c_23
      refine lv_dload_n hx hb dX1_of_93 rfl (lv_at hl 0 rfl) ?_
      refine lv_ldc2d (v := 4611686018427387904) hx hb hown (hts _ wd_X1_of_2) dX1_of_94 ?_
      refine lv_dcmp hx hb dX1_of_97 ?_
      refine lv_if_lt (tgt := 116) hx hb dX1_of_98 (by decide) (fun c_24 => ?_) (fun c_24 => ?_)
      · replace h := it_t h c_24
        obtain rfl := sm1 h
        obtain ⟨rfl, rfl⟩ := sm2 hk
        exact K H locs ls hP hD hS (lv_sub hl [0, 1] rfl)
      · replace h := it_f h c_24
        refine lv_dload_n hx hb dX1_of_101 rfl (lv_at hl 0 rfl) ?_
        refine lv_ldc2d (v := 4611686018427387904) hx hb hown (hts _ wd_X1_of_2) dX1_of_102 ?_
        obtain ⟨g_25, h⟩ := gd_ok h
        refine lv_ddiv hx hb dX1_of_105 g_25 ?_
        refine lv_topd (fun x2_26 ex2_26 => ?_)
        replace h := pl_v h ex2_26
        refine lv_dstore_n (lv' := [(2, .double x2_26), (4, .int x4), (5, .int x5)]) hx hb dX1_of_106 rfl hl (by decide) rfl (fun ls hl => ?_)
        obtain ⟨x4_27, ex4_27, h⟩ := pl_ok h
        refine lv_iinc (v := x4_27) (lv' := [(4, .int x4_27), (2, .double x2_26), (5, .int x5)]) hx hb dX1_of_107 hl (k := 1) rfl (by rw [ex4_27]; rfl) (by decide) rfl (fun ls hl => ?_)
        obtain ⟨x5_28, ex5_28, h⟩ := pl_ok h
        refine lv_iinc (v := x5_28) (lv' := [(5, .int x5_28), (4, .int x4_27), (2, .double x2_26)]) hx hb dX1_of_110 hl (k := 2) rfl (by rw [ex5_28]; rfl) (by decide) rfl (fun ls hl => ?_)
        refine lv_goto (tgt := 86) hx hb dX1_of_113 (by decide) ?_
        obtain rfl := sm1 h
        exact ih x2_26 x4_27 x5_28 hk H locs ls hP hD hS (lv_sub hl [2, 1, 0] rfl)
set_option maxHeartbeats 4000000 in
set_option maxRecDepth 100000 in
theorem l_X1_of_4 {p : Program} {l : Launch} {e : Env} {s : State} {m : MethodId} {args : Array Value} {below : List Frame} {meth : Method} {c : Code} {Q : State → Prop} {A0 : Nat → Prop} {H0 : Heap} (C : CallFix p m c cX1_of 6 s args wsX1_of RX1) (G : GT) (hK : gK G s) (hA : ∀ q : Nat, H0.size ≤ q → A0 q) (E_x2 : UInt64) (E_x4 : Int32) (K : ∀ (H : Heap) (locs : List Loc) (ls : Array Slot), va_P G.1 vwCl [] H → va_D A0 [] → va_S A0 H0 H locs → lv_has ls 6 [(2, .double E_x2), (4, .int E_x4)] → W p l e ({ frames := 2, cells := 0, slots := 0, locals := 82 } : Room) s m args below meth c H locs 0 0 Q (F0 m 147 ls [])) : ∀ (n : Nat) (x2 : UInt64) (x4 : Int32) (x5 : Int32), lpN (f_X1_of_L4) n (x2, x4, x5) = some (E_x2, E_x4) → ∀ (H : Heap) (locs : List Loc) (ls : Array Slot), va_P G.1 vwCl [] H → va_D A0 [] → va_S A0 H0 H locs → lv_has ls 6 [(2, .double x2), (4, .int x4), (5, .int x5)] → W p l e ({ frames := 2, cells := 0, slots := 0, locals := 82 } : Room) s m args below meth c H locs 0 0 Q (F0 m 119 ls []) := by
  obtain ⟨hx, hb, hml, hown, hts⟩ := C
  intro n
  induction n with
  | zero => intro x2 x4 x5 h; exact absurd h (fun h => lp_0 h)
  | succ n ih =>
    intro x2 x4 x5 h H locs ls hP hD hS hl
    obtain ⟨y, h, hk⟩ := lp_s h
    rw [f_X1_of_L4] at h
    refine lv_iload hx hb dX1_of_119 (lv_at hl 2 rfl) ?_
    refine lv_bipush (v := 40) hx hb dX1_of_121 (by decide) ?_
    refine lv_icmp_ge (tgt := 147) hx hb dX1_of_123 (by decide) (fun c_33 => ?_) (fun c_33 => ?_)
    · replace h := it_t h c_33
      obtain rfl := sm1 h
      obtain ⟨rfl, rfl⟩ := sm2 hk
      exact K H locs ls hP hD hS (lv_sub hl [0, 1] rfl)
    · replace h := it_f h c_33
      refine lv_dload_n hx hb dX1_of_126 rfl (lv_at hl 0 rfl) ?_
      refine lv_dconst1 hx hb dX1_of_127 ?_
      refine lv_dcmp hx hb dX1_of_128 ?_
      refine lv_if_ge (tgt := 147) hx hb dX1_of_129 (by decide) (fun c_34 => ?_) (fun c_34 => ?_)
      · replace h := it_t h c_34
        obtain rfl := sm1 h
        obtain ⟨rfl, rfl⟩ := sm2 hk
        exact K H locs ls hP hD hS (lv_sub hl [0, 1] rfl)
      · replace h := it_f h c_34
        refine lv_dload_n hx hb dX1_of_132 rfl (lv_at hl 0 rfl) ?_
        refine lv_ldc2d (v := 4611686018427387904) hx hb hown (hts _ wd_X1_of_2) dX1_of_133 ?_
        obtain ⟨g_35, h⟩ := gd_ok h
        refine lv_dmul hx hb dX1_of_136 g_35 ?_
        refine lv_topd (fun x2_36 ex2_36 => ?_)
        replace h := pl_v h ex2_36
        refine lv_dstore_n (lv' := [(2, .double x2_36), (4, .int x4), (5, .int x5)]) hx hb dX1_of_137 rfl hl (by decide) rfl (fun ls hl => ?_)
        obtain ⟨x4_37, ex4_37, h⟩ := pl_ok h
        refine lv_iinc (v := x4_37) (lv' := [(4, .int x4_37), (2, .double x2_36), (5, .int x5)]) hx hb dX1_of_138 hl (k := 1) rfl (by rw [ex4_37]; rfl) (by decide) rfl (fun ls hl => ?_)
        obtain ⟨x5_38, ex5_38, h⟩ := pl_ok h
        refine lv_iinc (v := x5_38) (lv' := [(5, .int x5_38), (4, .int x4_37), (2, .double x2_36)]) hx hb dX1_of_141 hl (k := 2) rfl (by rw [ex5_38]; rfl) (by decide) rfl (fun ls hl => ?_)
        refine lv_goto (tgt := 119) hx hb dX1_of_144 (by decide) ?_
        obtain rfl := sm1 h
        exact ih x2_36 x4_37 x5_38 hk H locs ls hP hD hS (lv_sub hl [2, 1, 0] rfl)
set_option maxHeartbeats 4000000 in
set_option maxRecDepth 100000 in
theorem k_X1_of {p : Program} {l : Launch} {e : Env} {s : State} {m : MethodId} {args : Array Value} {below : List Frame} {meth : Method} {c : Code} {Q : State → Prop} {A0 : Nat → Prop} {H0 : Heap} (C : CallFix p m c cX1_of 6 s args wsX1_of RX1) (G : GT) (hK : gK G s) (hA : ∀ q : Nat, H0.size ≤ q → A0 q) (a1 : UInt64) (r : Int64) (h : f_X1_of a1 = some r) (KR : ∀ (H : Heap) (locs : List Loc) (ls : Array Slot) (pc : Nat), decode cX1_of pc = .ok (.lreturn, 1) → va_P G.1 vwCl [] H → va_D A0 [] → va_S A0 H0 H locs → W p l e ({ frames := 2, cells := 0, slots := 0, locals := 82 } : Room) s m args below meth c H locs 0 0 Q (F0 m pc ls [.long r])) : ∀ (H : Heap) (locs : List Loc) (ls : Array Slot), va_P G.1 vwCl [] H → va_D A0 [] → va_S A0 H0 H locs → lv_has ls 6 [(0, .double a1)] → W p l e ({ frames := 2, cells := 0, slots := 0, locals := 82 } : Room) s m args below meth c H locs 0 0 Q (F0 m 0 ls []) := by
  obtain ⟨hx, hb, hml, hown, hts⟩ := C
  intro H locs ls hP hD hS hl
  rw [f_X1_of] at h
  refine lv_dload_n hx hb dX1_of_0 rfl (lv_at hl 0 rfl) ?_
  refine lv_dconst0 hx hb dX1_of_1 ?_
  refine lv_dcmp hx hb dX1_of_2 ?_
  refine lv_if_gt (tgt := 8) hx hb dX1_of_3 (by decide) (fun c_1 => ?_) (fun c_1 => ?_)
  · replace h := it_t h c_1
    refine lv_dload_n hx hb dX1_of_8 rfl (lv_at hl 0 rfl) ?_
    refine lv_dstore_n (lv' := [(2, .double a1), (0, .double a1)]) hx hb dX1_of_9 rfl hl (by decide) rfl (fun ls hl => ?_)
    refine lv_sipush (v := 1023) hx hb dX1_of_10 (by decide) ?_
    refine lv_istore (lv' := [(4, .int (1023 : Int32)), (2, .double a1), (0, .double a1)]) hx hb dX1_of_13 hl (by decide) rfl (fun ls hl => ?_)
    refine lv_iconst (v := 0) hx hb dX1_of_15 (by decide) ?_
    refine lv_istore (lv' := [(5, .int (0 : Int32)), (4, .int (1023 : Int32)), (2, .double a1), (0, .double a1)]) hx hb dX1_of_16 hl (by decide) rfl (fun ls hl => ?_)
    obtain ⟨⟨x2_8, x4_9⟩, hz_11, h⟩ := bd_ok h
    refine l_X1_of_1 ⟨hx, hb, hml, hown, hts⟩ G hK hA x2_8 x4_9 ?_ FU a1 (1023 : Int32) (0 : Int32) hz_11 H locs ls hP hD hS (lv_sub hl [2, 1, 0] rfl)
    intro H locs ls hP hD hS hl
    refine lv_iconst (v := 0) hx hb dX1_of_48 (by decide) ?_
    refine lv_istore (lv' := [(5, .int (0 : Int32)), (2, .double x2_8), (4, .int x4_9)]) hx hb dX1_of_49 hl (by decide) rfl (fun ls hl => ?_)
    obtain ⟨⟨x2_19, x4_20⟩, hz_22, h⟩ := bd_ok h
    refine l_X1_of_2 ⟨hx, hb, hml, hown, hts⟩ G hK hA x2_19 x4_20 ?_ FU x2_8 x4_9 (0 : Int32) hz_22 H locs ls hP hD hS (lv_sub hl [1, 2, 0] rfl)
    intro H locs ls hP hD hS hl
    refine lv_iconst (v := 0) hx hb dX1_of_83 (by decide) ?_
    refine lv_istore (lv' := [(5, .int (0 : Int32)), (2, .double x2_19), (4, .int x4_20)]) hx hb dX1_of_84 hl (by decide) rfl (fun ls hl => ?_)
    obtain ⟨⟨x2_29, x4_30⟩, hz_32, h⟩ := bd_ok h
    refine l_X1_of_3 ⟨hx, hb, hml, hown, hts⟩ G hK hA x2_29 x4_30 ?_ FU x2_19 x4_20 (0 : Int32) hz_32 H locs ls hP hD hS (lv_sub hl [1, 2, 0] rfl)
    intro H locs ls hP hD hS hl
    refine lv_iconst (v := 0) hx hb dX1_of_116 (by decide) ?_
    refine lv_istore (lv' := [(5, .int (0 : Int32)), (2, .double x2_29), (4, .int x4_30)]) hx hb dX1_of_117 hl (by decide) rfl (fun ls hl => ?_)
    obtain ⟨⟨x2_39, x4_40⟩, hz_42, h⟩ := bd_ok h
    refine l_X1_of_4 ⟨hx, hb, hml, hown, hts⟩ G hK hA x2_39 x4_40 ?_ FU x2_29 x4_30 (0 : Int32) hz_42 H locs ls hP hD hS (lv_sub hl [1, 2, 0] rfl)
    intro H locs ls hP hD hS hl
    refine lv_iload hx hb dX1_of_147 (lv_at hl 1 rfl) ?_
    refine lv_dload_n hx hb dX1_of_149 rfl (lv_at hl 0 rfl) ?_
    refine lv_ldc2d (v := 4841369599423283200) hx hb hown (hts _ wd_X1_of_3) dX1_of_150 ?_
    obtain ⟨g_43, h⟩ := gd_ok h
    refine lv_dmul hx hb dX1_of_153 g_43 ?_
    refine lv_d2l hx hb dX1_of_154 ?_
    obtain ⟨r_44, hf_45, h⟩ := bd_ok h
    refine ck_Sl (rest := []) (wn := []) ⟨hx, hb, hml, hown, hts⟩ hK hP hD hS hA [] [] [] (c_X1_join l G _ x4_40 (FP.d2l (FP.dmul x2_39 (4841369599423283200 : UInt64))) _ hf_45) (cwS 2 hts gX1_of_X1_join rfl rfl rfl (by decide +kernel) ⟨Nat.le_of_ble_eq_true rfl, Nat.le_of_ble_eq_true rfl⟩) rfl rfl rfl rfl (by decide) rfl rfl rfl hl.1 rfl (Nat.le_of_ble_eq_true rfl) dX1_of_155 ⟨Nat.zero_le _, Nat.zero_le _⟩ (fun H locs hP hD hS => ?_)
    obtain rfl := sm1 h
    exact KR H locs ls 158 dX1_of_158 hP hD hS
  · replace h := it_f h c_1
    refine lv_lconst (v := 0) hx hb dX1_of_6 (by decide) ?_
    obtain rfl := sm1 h
    exact KR H locs ls 7 dX1_of_7 hP hD hS
set_option maxHeartbeats 4000000 in
set_option maxRecDepth 100000 in
theorem c_X1_of (l : Launch) (G : GT) (sz : Nat) (a1 : UInt64) (r : Int64) (h : f_X1_of a1 = some r) : Met l yX1_of wsX1_of ({ frames := 2, cells := 0, slots := 0, locals := 82 } : Room) (va_Pc [.double a1] (pcW G [] sz)) (va_Ql (fun r9 (_ : Unit) => r9 = r) (fun _ t => atW G (va_A [] sz) [] t) (va_A [] sz)) 0 0 (va_A [] sz) := by
  refine Met.ofW (cc := cX1_of) (maxL := 6) (ret := (some .long)) (by decide) rfl ?_
  intro p e s m args below meth c s₁ B hml hv
  obtain ⟨rfl, hsz, hP, hK, hD0⟩ := hv
  subst hsz
  have hD := hD0.self (sz := s.heap.size)
  generalize hAe : va_A [] s.heap.size = A at hD ⊢
  have hA : ∀ q : Nat, s.heap.size ≤ q → A q := fun q h => by rw [← hAe]; exact Or.inr h
  have hl := lv_entry ([.double a1]) (n := 6) (Nat.le_of_ble_eq_true rfl)
  rw [lg_entry_eq]
  refine k_X1_of ⟨B.exec, B.bytes, hml, findClass_of_methodNamed B.named, atoms_spec (ws := wsX1_of) B.pre⟩ G hK hA _ _ h ?_ _ _ _ hP hD va_S.rf hl
  intro H locs ls pc hd hP hD hS
  exact W.lret B.exec B.bytes B.returns (fun t ht hW => ⟨⟨r, (), rfl, rfl, by rw [ht]; exact hP, hD⟩, hS.F ht⟩) hS.2.2 hd B.notSynchronized
