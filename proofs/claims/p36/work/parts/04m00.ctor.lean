/-! constructors -/
def pcA (G : GT) (ws : va_W) (sz : Nat) (U : State) : Prop := pcW G ws sz U ∧ va_AO "PermanentDesk$Matrix" U
theorem gK_uni {G : GT} {s : State} {cA c0 : ClassId} {k : Nat} {ty : FieldType} (h : va_K G.1 vwCl (gTy G ++ [(cA, ty)]) s) (hk : (gTy G)[k]? = some (c0, ty)) : s.vm.findClass ("[" ++ ty.toString) = some cA → s.vm.findClass ("[" ++ ty.toString) = some c0 → cA = c0 := fun h1 h2 => by
  rw [h1] at h2
  exact Option.some.inj h2
theorem gK_last {G : GT} {s : State} {cA : ClassId} {ty : FieldType} (h : va_K G.1 vwCl (gTy G ++ [(cA, ty)]) s) : va_RA s cA ty := (h.2 5 (cA, ty) rfl).2
theorem gK_uni_int {G : GT} {s : State} {cA : ClassId} (h : va_K G.1 vwCl (gTy G ++ [(cA, .int)]) s) : cA = G.2 0 := gK_uni (k := 0) h rfl (gK_last h) (h.2 0 _ rfl).2
theorem gK_uni_long {G : GT} {s : State} {cA : ClassId} (h : va_K G.1 vwCl (gTy G ++ [(cA, .long)]) s) : cA = G.2 1 := gK_uni (k := 1) h rfl (gK_last h) (h.2 1 _ rfl).2
theorem gK_uni_double {G : GT} {s : State} {cA : ClassId} (h : va_K G.1 vwCl (gTy G ++ [(cA, .double)]) s) : cA = G.2 2 := gK_uni (k := 2) h rfl (gK_last h) (h.2 2 _ rfl).2
theorem gK_uni_char {G : GT} {s : State} {cA : ClassId} (h : va_K G.1 vwCl (gTy G ++ [(cA, .char)]) s) : cA = G.2 3 := gK_uni (k := 3) h rfl (gK_last h) (h.2 3 _ rfl).2
theorem gK_uni_mat {G : GT} {s : State} {cA : ClassId} (h : va_K G.1 vwCl (gTy G ++ [(cA, .object "PermanentDesk$Matrix")]) s) : cA = G.2 4 := by
  obtain ⟨_, _, _, _, _, h1⟩ := gK_last h
  obtain ⟨_, _, _, _, _, h2⟩ := (h.2 4 _ rfl).2
  exact gK_uni (k := 4) h rfl h1 h2
theorem st4_up {a b c d : Nat} : va_up (va_up (va_up (va_up (fun _ => none) (0 : Int32).toNatClampNeg (some a)) (1 : Int32).toNatClampNeg (some b)) (2 : Int32).toNatClampNeg (some c)) (3 : Int32).toNatClampNeg (some d) = st4 a b c d := by
  funext k
  match k with
  | 0 => rfl
  | 1 => rfl
  | 2 => rfl
  | 3 => rfl
  | k + 4 =>
    show (if k + 4 = 3 then _ else if k + 4 = 2 then _ else if k + 4 = 1 then _ else if k + 4 = 0 then _ else none) = none
    rw [if_neg (by omega), if_neg (by omega), if_neg (by omega), if_neg (by omega)]
section CI
variable {p : Program} {l : Launch} {e : Env} {R : Room} {s : State} {m : MethodId} {args : Array Value} {below : List Frame} {meth : Method} {c : Code} {H : Heap} {locs : List Loc} {cells slots : Nat} {Q : State → Prop}
variable {cc bytes : ByteArray} {nL maxL index n mc ms : Nat} {own : String} {y : MethodName} {wsc Ts : List Cond} {rm : Room}
variable {G : GT} {ws wc : va_W} {A0 : Nat → Prop} {H0 : Heap} {b : Nat} {rest st0 : List Value} {pc : Nat} {ls : Array Slot}
theorem ck_blindA {As : List Value} {wc : va_W} {sz : Nat} : FrameBlind (va_Pc As (pcA G wc sz)) := fun a U g mk q => by
  obtain ⟨q0, ⟨q1, qP, qK, qD⟩, qA⟩ := q
  exact ⟨q0, ⟨q1, qP, va_K.moved (u := U) (U := U.calling g mk a) (Vm.Alike.refl U.vm) qK, qD⟩, va_AO.moved (u := U) (U := U.calling g mk a) (Vm.Alike.refl U.vm) qA⟩
theorem ck_I (S : CallFix p m c cc nL s args Ts own) (hK : gK G s) (hAO : va_AO "PermanentDesk$Matrix" s) (hP : va_P G.1 vwCl ws H) (hD : va_D A0 ws) (hS : va_S A0 H0 H locs) (hA : ∀ q, H0.size ≤ q → A0 q) (isC isR : List Nat) {w1 : (Nat → Nat) → va_W}
    (hM : Met l y wsc rm (va_Pc [.ref b] (pcA G wc H.size)) (va_Qv (fun (_ : Nat → Nat) => True) (fun u t => atW G (va_A wc H.size) (w1 u) t) (va_A wc H.size)) mc ms (va_A wc H.size))
    (cw : CallB R s args own index y bytes maxL none wsc rm mc ms 0 ∧ y.name = "<init>" ∧ (Cond.instanceMethod y).before args s = true) (hC : isC.map (fun i => ws[i]?) = wc.map some) (hCn : va_nd isC = true) (hR : isR.map (fun i => ws[i]?) = (isR.filterMap (fun i => ws[i]?)).map some) (hn : va_nd isR = true) (hdis : ∀ i ∈ isR, i ∉ isC)
    (hsize : ls.size = nL) (hst : st0 = .ref b :: rest) (hW : (rest.map fun v => v.category).sum ≤ 8) (hdg : decode cc pc = .ok (.invokespecial index, 3)) (hcs : cells + mc ≤ R.cells ∧ slots + ms ≤ R.slots)
    (kk : ∀ (u : Nat → Nat) (H1 : Heap) (locs1 : List Loc), va_P G.1 vwCl (isR.filterMap (fun i => ws[i]?) ++ w1 u) H1 → va_D A0 (isR.filterMap (fun i => ws[i]?) ++ w1 u) → va_S A0 H0 H1 locs1 → W p l e R s m args below meth c H1 locs1 (cells + mc) (slots + ms) Q (F0 m (pc + 3) ls rest)) : W p l e R s m args below meth c H locs cells slots Q (F0 m pc ls st0) := by
  have hF := va_free hD hS hA isC hC
  have hPc := hP.sub isC (fm_of_map _ _ _ hC)
  have hDc := hD.sub isC hCn hC
  refine va_callv (va_runI (As := []) S hM cw ⟨ck_blindA, fun U hU hW => ⟨rfl, ⟨by rw [hU], by rw [hU]; exact hPc, va_K.moved hW.alike hK, hDc.weaken (fun _ _ _ _ => trivial)⟩, va_AO.moved hW.alike hAO⟩⟩ rfl rfl hsize hst (lv_room hW) hdg hcs) hS (fun q _ h => hF q h) hF (fun u t H1 locs1 ht hvm hw hB hz hk hS1 => ?_)
  obtain ⟨hP1, hD1⟩ := hB
  rw [ht] at hP1
  obtain ⟨hP2, hD2⟩ := va_join hP hD isC isR hC hR hn hdis hk (va_free hD hS hA isC hC) hP1 hD1
  exact kk u H1 locs1 hP2 hD2 hS1
end CI
set_option maxRecDepth 20000 in
theorem wd_X4_init_1 : Cond.methodLink RX4 3 objectInit ∈ wsX4_init := List.mem_of_getElem? (i := 1) (by decide +kernel)
set_option maxRecDepth 20000 in
theorem wd_X4_init_2 : Cond.instanceMethod objectInit ∈ wsX4_init := List.mem_of_getElem? (i := 2) (by decide +kernel)
set_option maxRecDepth 20000 in
theorem wd_X4_init_3 : Cond.code objectInit ⟨#[0xb1]⟩ 1 none ∈ wsX4_init := List.mem_of_getElem? (i := 3) (by decide +kernel)
set_option maxRecDepth 20000 in
theorem wd_X4_init_4 : Cond.arrayClass .int ∈ wsX4_init := List.mem_of_getElem? (i := 4) (by decide +kernel)
set_option maxRecDepth 20000 in
theorem wd_X4_init_5 : Cond.fieldLink RX4 9 "PermanentDesk$Matrix" "cells" "[I" ∈ wsX4_init := List.mem_of_getElem? (i := 5) (by decide +kernel)
set_option maxRecDepth 20000 in
theorem wi_X4_init_X4 : ∀ w ∈ u_ws RX4 TX4 2, w ∈ wsX4_init := by decide +kernel
set_option maxRecDepth 20000 in
theorem wd_X4_init_6 : Cond.fieldLink RX4 15 "PermanentDesk$Matrix" "size" "I" ∈ wsX4_init := List.mem_of_getElem? (i := 6) (by decide +kernel)
set_option maxHeartbeats 4000000 in
set_option maxRecDepth 100000 in
theorem c_X4_init (l : Launch) (G : GT) (q_t : Nat) (sz : Nat) : Met l yX4_init wsX4_init ({ frames := 1, cells := 1, slots := 49, locals := 20 } : Room) (va_Pc [.ref q_t] (pcA G [(q_t, .inr (3, [.null, .int 0]))] sz)) (va_Qv (fun (_ : Nat → Nat) => True) (fun u t => atW G (va_A [(q_t, .inr (3, [.null, .int 0]))] sz) [(q_t, .inr (3, [.ref (u 1), .int 3])), ((u 1), .inl (G.2 0, 49, .inl (fun _ => 0)))] t) (va_A [(q_t, .inr (3, [.null, .int 0]))] sz)) 1 49 (va_A [(q_t, .inr (3, [.null, .int 0]))] sz) := by
  refine Met.ofW (cc := cX4_init) (maxL := 1) (ret := none) (by decide) rfl ?_
  intro p e s m args below meth c s₁ B hml hv
  obtain ⟨rfl, ⟨hsz, hP, hK, hD0⟩, hAO⟩ := hv
  subst hsz
  have hD := hD0.self (sz := s.heap.size)
  generalize hAe : va_A [(q_t, .inr (3, [.null, .int 0]))] s.heap.size = A at hD ⊢
  have hA : ∀ q : Nat, s.heap.size ≤ q → A q := fun q h => by rw [← hAe]; exact Or.inr h
  have hx := B.exec
  have hb := B.bytes
  have hown : s.vm.findClass RX4 = some m.cls := findClass_of_methodNamed B.named
  have hts := atoms_spec (ws := wsX4_init) B.pre
  have hin : meth.name = "<init>" := (name_of_methodNamed B.named B.method).1
  have hS : va_S A s.heap s.heap [] := va_S.rf
  have hl := lv_entry ([.ref q_t]) (n := 1) (Nat.le_of_ble_eq_true rfl)
  rw [lg_entry_eq]
  generalize (lg_sl ([.ref q_t]) ++ List.replicate (1 - (lg_sl ([.ref q_t])).length) Slot.unset).toArray = ls at hl ⊢
  have hl : lv_has ls 1 [(0, .ref q_t)] := hl
  refine lv_aload_n hx hb dX4_init_0 rfl (lv_at hl 0 rfl) ?_
  refine W.objInit hx hb hown (hts _ wd_X4_init_1) (hts _ wd_X4_init_2) (hts _ wd_X4_init_3) rfl (by rw [hml]; exact hl.1) rfl dX4_init_1 (Nat.le_of_ble_eq_true rfl) (Nat.le_of_ble_eq_true rfl) ?_
  refine W.eq (g2 := F0 m 4 ls []) rfl ?_
  refine lv_aload_n hx hb dX4_init_4 rfl (lv_at hl 0 rfl) ?_
  refine lv_bipush (v := 49) hx hb dX4_init_5 (by decide) ?_
  refine va_newa (D := G.1) (atype := .int) (ty := .int) (N' := 49) (a0 := (49, .inl (fun _ => 0))) hx hb (hts _ wd_X4_init_4) rfl hK hP hD hS hA (fun _ => rfl) (by decide) (by decide) (Nat.le_of_ble_eq_true rfl) (Nat.le_of_ble_eq_true rfl) (Nat.le_of_ble_eq_true rfl) dX4_init_7 (fun q1 cA H hK2 hP hD hS => ?_)
  obtain rfl : cA = G.2 0 := gK_uni_int hK2
  refine W.widen (k := 1) (n := 49) (Nat.le_of_ble_eq_true rfl) (Nat.le_of_ble_eq_true rfl) ?_
  have hP : va_P G.1 vwCl [(q_t, .inr (3, [.null, .int 0])), (q1, .inl (G.2 0, 49, .inl (fun _ => 0)))] H := hP
  have hD : va_D A [(q_t, .inr (3, [.null, .int 0])), (q1, .inl (G.2 0, 49, .inl (fun _ => 0)))] := hD
  refine va_putF (D := G.1) (ci := 3) (v := .ref q1) (ty := .array .int) (C := RX4) (T := TX4) (N := 2) hx hb hts wi_X4_init_X4 tyX4 tyX4_ok nmX4 hown hK hP hD hS 0 rfl rfl 0 (by decide) (hts _ wd_X4_init_5) (fun _ h9 => h9) rfl hin rfl (by decide +kernel) rfl rfl (Nat.le_of_ble_eq_true rfl) dX4_init_9 (fun H locs hP hD hS => ?_)
  have hP : va_P G.1 vwCl [(q_t, .inr (3, [.ref q1, .int 0])), (q1, .inl (G.2 0, 49, .inl (fun _ => 0)))] H := hP
  have hD : va_D A [(q_t, .inr (3, [.ref q1, .int 0])), (q1, .inl (G.2 0, 49, .inl (fun _ => 0)))] := hD
  refine lv_aload_n hx hb dX4_init_12 rfl (lv_at hl 0 rfl) ?_
  refine lv_iconst (v := 3) hx hb dX4_init_13 (by decide) ?_
  refine st_put (D := G.1) (ci := 3) (v := .int 3) (ty := .int) (C := RX4) (T := TX4) (N := 2) (wn := [(q_t, .inr (3, [.ref q1, .int 3])), (q1, .inl (G.2 0, 49, .inl (fun _ => 0)))]) hx hb hts wi_X4_init_X4 tyX4 tyX4_ok nmX4 hown hK hP hD hS 0 rfl rfl 1 (by decide) (hts _ wd_X4_init_6) (fun _ h9 => h9) rfl (by decide +kernel) rfl rfl (Nat.le_of_ble_eq_true rfl) dX4_init_14 rfl (fun H locs hP hD hS => ?_)
  have hP9 := hP.sub (ws' := [(q_t, .inr (3, [.ref q1, .int 3])), (q1, .inl (G.2 0, 49, .inl (fun _ => 0)))]) [0, 1] rfl
  have hD9 := hD.sub (ws' := [(q_t, .inr (3, [.ref q1, .int 3])), (q1, .inl (G.2 0, 49, .inl (fun _ => 0)))]) [0, 1] (by decide) rfl
  exact W.vret hx hb B.returns (fun t ht hW => ⟨⟨fun k => List.getD [q_t, q1] k 0, rfl, trivial, by rw [ht]; exact hP9, hD9⟩, hS.F ht⟩) hS.2.2 dX4_init_17 B.notSynchronized
set_option maxRecDepth 20000 in
theorem wd_X0_init_1 : Cond.methodLink RX0 3 objectInit ∈ wsX0_init := List.mem_of_getElem? (i := 1) (by decide +kernel)
set_option maxRecDepth 20000 in
theorem wd_X0_init_2 : Cond.instanceMethod objectInit ∈ wsX0_init := List.mem_of_getElem? (i := 2) (by decide +kernel)
set_option maxRecDepth 20000 in
theorem wd_X0_init_3 : Cond.code objectInit ⟨#[0xb1]⟩ 1 none ∈ wsX0_init := List.mem_of_getElem? (i := 3) (by decide +kernel)
set_option maxRecDepth 20000 in
theorem wd_X0_init_4 : Cond.arrayClass .long ∈ wsX0_init := List.mem_of_getElem? (i := 4) (by decide +kernel)
set_option maxRecDepth 20000 in
theorem wd_X0_init_5 : Cond.fieldLink RX0 9 "PermanentDesk$ColumnSums" "sums" "[J" ∈ wsX0_init := List.mem_of_getElem? (i := 5) (by decide +kernel)
set_option maxRecDepth 20000 in
theorem wi_X0_init_X0 : ∀ w ∈ u_ws RX0 TX0 1, w ∈ wsX0_init := by decide +kernel
set_option maxHeartbeats 4000000 in
set_option maxRecDepth 100000 in
theorem c_X0_init (l : Launch) (G : GT) (q_t : Nat) (sz : Nat) : Met l yX0_init wsX0_init ({ frames := 1, cells := 1, slots := 128, locals := 20 } : Room) (va_Pc [.ref q_t] (pcA G [(q_t, .inr (0, [.null]))] sz)) (va_Qv (fun (_ : Nat → Nat) => True) (fun u t => atW G (va_A [(q_t, .inr (0, [.null]))] sz) [(q_t, .inr (0, [.ref (u 1)])), ((u 1), .inl (G.2 1, 128, .inr (.inl (fun _ => 0))))] t) (va_A [(q_t, .inr (0, [.null]))] sz)) 1 128 (va_A [(q_t, .inr (0, [.null]))] sz) := by
  refine Met.ofW (cc := cX0_init) (maxL := 1) (ret := none) (by decide) rfl ?_
  intro p e s m args below meth c s₁ B hml hv
  obtain ⟨rfl, ⟨hsz, hP, hK, hD0⟩, hAO⟩ := hv
  subst hsz
  have hD := hD0.self (sz := s.heap.size)
  generalize hAe : va_A [(q_t, .inr (0, [.null]))] s.heap.size = A at hD ⊢
  have hA : ∀ q : Nat, s.heap.size ≤ q → A q := fun q h => by rw [← hAe]; exact Or.inr h
  have hx := B.exec
  have hb := B.bytes
  have hown : s.vm.findClass RX0 = some m.cls := findClass_of_methodNamed B.named
  have hts := atoms_spec (ws := wsX0_init) B.pre
  have hin : meth.name = "<init>" := (name_of_methodNamed B.named B.method).1
  have hS : va_S A s.heap s.heap [] := va_S.rf
  have hl := lv_entry ([.ref q_t]) (n := 1) (Nat.le_of_ble_eq_true rfl)
  rw [lg_entry_eq]
  generalize (lg_sl ([.ref q_t]) ++ List.replicate (1 - (lg_sl ([.ref q_t])).length) Slot.unset).toArray = ls at hl ⊢
  have hl : lv_has ls 1 [(0, .ref q_t)] := hl
  refine lv_aload_n hx hb dX0_init_0 rfl (lv_at hl 0 rfl) ?_
  refine W.objInit hx hb hown (hts _ wd_X0_init_1) (hts _ wd_X0_init_2) (hts _ wd_X0_init_3) rfl (by rw [hml]; exact hl.1) rfl dX0_init_1 (Nat.le_of_ble_eq_true rfl) (Nat.le_of_ble_eq_true rfl) ?_
  refine W.eq (g2 := F0 m 4 ls []) rfl ?_
  refine lv_aload_n hx hb dX0_init_4 rfl (lv_at hl 0 rfl) ?_
  refine lv_sipush (v := 128) hx hb dX0_init_5 (by decide) ?_
  refine va_newa (D := G.1) (atype := .long) (ty := .long) (N' := 128) (a0 := (128, .inr (.inl (fun _ => 0)))) hx hb (hts _ wd_X0_init_4) rfl hK hP hD hS hA (fun _ => rfl) (by decide) (by decide) (Nat.le_of_ble_eq_true rfl) (Nat.le_of_ble_eq_true rfl) (Nat.le_of_ble_eq_true rfl) dX0_init_8 (fun q1 cA H hK2 hP hD hS => ?_)
  obtain rfl : cA = G.2 1 := gK_uni_long hK2
  refine W.widen (k := 1) (n := 128) (Nat.le_of_ble_eq_true rfl) (Nat.le_of_ble_eq_true rfl) ?_
  have hP : va_P G.1 vwCl [(q_t, .inr (0, [.null])), (q1, .inl (G.2 1, 128, .inr (.inl (fun _ => 0))))] H := hP
  have hD : va_D A [(q_t, .inr (0, [.null])), (q1, .inl (G.2 1, 128, .inr (.inl (fun _ => 0))))] := hD
  refine va_putF (D := G.1) (ci := 0) (v := .ref q1) (ty := .array .long) (C := RX0) (T := TX0) (N := 1) hx hb hts wi_X0_init_X0 tyX0 tyX0_ok nmX0 hown hK hP hD hS 0 rfl rfl 0 (by decide) (hts _ wd_X0_init_5) (fun _ h9 => h9) rfl hin rfl (by decide +kernel) rfl rfl (Nat.le_of_ble_eq_true rfl) dX0_init_10 (fun H locs hP hD hS => ?_)
  have hP : va_P G.1 vwCl [(q_t, .inr (0, [.ref q1])), (q1, .inl (G.2 1, 128, .inr (.inl (fun _ => 0))))] H := hP
  have hD : va_D A [(q_t, .inr (0, [.ref q1])), (q1, .inl (G.2 1, 128, .inr (.inl (fun _ => 0))))] := hD
  have hP9 := hP.sub (ws' := [(q_t, .inr (0, [.ref q1])), (q1, .inl (G.2 1, 128, .inr (.inl (fun _ => 0))))]) [0, 1] rfl
  have hD9 := hD.sub (ws' := [(q_t, .inr (0, [.ref q1])), (q1, .inl (G.2 1, 128, .inr (.inl (fun _ => 0))))]) [0, 1] (by decide) rfl
  exact W.vret hx hb B.returns (fun t ht hW => ⟨⟨fun k => List.getD [q_t, q1] k 0, rfl, trivial, by rw [ht]; exact hP9, hD9⟩, hS.F ht⟩) hS.2.2 dX0_init_13 B.notSynchronized
set_option maxRecDepth 20000 in
theorem wd_X2_init_1 : Cond.methodLink RX2 3 objectInit ∈ wsX2_init := List.mem_of_getElem? (i := 1) (by decide +kernel)
set_option maxRecDepth 20000 in
theorem wd_X2_init_2 : Cond.instanceMethod objectInit ∈ wsX2_init := List.mem_of_getElem? (i := 2) (by decide +kernel)
set_option maxRecDepth 20000 in
theorem wd_X2_init_3 : Cond.code objectInit ⟨#[0xb1]⟩ 1 none ∈ wsX2_init := List.mem_of_getElem? (i := 3) (by decide +kernel)
set_option maxRecDepth 20000 in
theorem wd_X2_init_4 : Cond.arrayClass .int ∈ wsX2_init := List.mem_of_getElem? (i := 4) (by decide +kernel)
set_option maxRecDepth 20000 in
theorem wd_X2_init_5 : Cond.fieldLink RX2 9 "PermanentDesk$Endings" "values" "[I" ∈ wsX2_init := List.mem_of_getElem? (i := 5) (by decide +kernel)
set_option maxRecDepth 20000 in
theorem wi_X2_init_X2 : ∀ w ∈ u_ws RX2 TX2 1, w ∈ wsX2_init := by decide +kernel
set_option maxHeartbeats 4000000 in
set_option maxRecDepth 100000 in
theorem c_X2_init (l : Launch) (G : GT) (q_t : Nat) (sz : Nat) : Met l yX2_init wsX2_init ({ frames := 1, cells := 1, slots := 128, locals := 20 } : Room) (va_Pc [.ref q_t] (pcA G [(q_t, .inr (1, [.null]))] sz)) (va_Qv (fun (_ : Nat → Nat) => True) (fun u t => atW G (va_A [(q_t, .inr (1, [.null]))] sz) [(q_t, .inr (1, [.ref (u 1)])), ((u 1), .inl (G.2 0, 128, .inl (fun _ => 0)))] t) (va_A [(q_t, .inr (1, [.null]))] sz)) 1 128 (va_A [(q_t, .inr (1, [.null]))] sz) := by
  refine Met.ofW (cc := cX2_init) (maxL := 1) (ret := none) (by decide) rfl ?_
  intro p e s m args below meth c s₁ B hml hv
  obtain ⟨rfl, ⟨hsz, hP, hK, hD0⟩, hAO⟩ := hv
  subst hsz
  have hD := hD0.self (sz := s.heap.size)
  generalize hAe : va_A [(q_t, .inr (1, [.null]))] s.heap.size = A at hD ⊢
  have hA : ∀ q : Nat, s.heap.size ≤ q → A q := fun q h => by rw [← hAe]; exact Or.inr h
  have hx := B.exec
  have hb := B.bytes
  have hown : s.vm.findClass RX2 = some m.cls := findClass_of_methodNamed B.named
  have hts := atoms_spec (ws := wsX2_init) B.pre
  have hin : meth.name = "<init>" := (name_of_methodNamed B.named B.method).1
  have hS : va_S A s.heap s.heap [] := va_S.rf
  have hl := lv_entry ([.ref q_t]) (n := 1) (Nat.le_of_ble_eq_true rfl)
  rw [lg_entry_eq]
  generalize (lg_sl ([.ref q_t]) ++ List.replicate (1 - (lg_sl ([.ref q_t])).length) Slot.unset).toArray = ls at hl ⊢
  have hl : lv_has ls 1 [(0, .ref q_t)] := hl
  refine lv_aload_n hx hb dX2_init_0 rfl (lv_at hl 0 rfl) ?_
  refine W.objInit hx hb hown (hts _ wd_X2_init_1) (hts _ wd_X2_init_2) (hts _ wd_X2_init_3) rfl (by rw [hml]; exact hl.1) rfl dX2_init_1 (Nat.le_of_ble_eq_true rfl) (Nat.le_of_ble_eq_true rfl) ?_
  refine W.eq (g2 := F0 m 4 ls []) rfl ?_
  refine lv_aload_n hx hb dX2_init_4 rfl (lv_at hl 0 rfl) ?_
  refine lv_sipush (v := 128) hx hb dX2_init_5 (by decide) ?_
  refine va_newa (D := G.1) (atype := .int) (ty := .int) (N' := 128) (a0 := (128, .inl (fun _ => 0))) hx hb (hts _ wd_X2_init_4) rfl hK hP hD hS hA (fun _ => rfl) (by decide) (by decide) (Nat.le_of_ble_eq_true rfl) (Nat.le_of_ble_eq_true rfl) (Nat.le_of_ble_eq_true rfl) dX2_init_8 (fun q1 cA H hK2 hP hD hS => ?_)
  obtain rfl : cA = G.2 0 := gK_uni_int hK2
  refine W.widen (k := 1) (n := 128) (Nat.le_of_ble_eq_true rfl) (Nat.le_of_ble_eq_true rfl) ?_
  have hP : va_P G.1 vwCl [(q_t, .inr (1, [.null])), (q1, .inl (G.2 0, 128, .inl (fun _ => 0)))] H := hP
  have hD : va_D A [(q_t, .inr (1, [.null])), (q1, .inl (G.2 0, 128, .inl (fun _ => 0)))] := hD
  refine va_putF (D := G.1) (ci := 1) (v := .ref q1) (ty := .array .int) (C := RX2) (T := TX2) (N := 1) hx hb hts wi_X2_init_X2 tyX2 tyX2_ok nmX2 hown hK hP hD hS 0 rfl rfl 0 (by decide) (hts _ wd_X2_init_5) (fun _ h9 => h9) rfl hin rfl (by decide +kernel) rfl rfl (Nat.le_of_ble_eq_true rfl) dX2_init_10 (fun H locs hP hD hS => ?_)
  have hP : va_P G.1 vwCl [(q_t, .inr (1, [.ref q1])), (q1, .inl (G.2 0, 128, .inl (fun _ => 0)))] H := hP
  have hD : va_D A [(q_t, .inr (1, [.ref q1])), (q1, .inl (G.2 0, 128, .inl (fun _ => 0)))] := hD
  have hP9 := hP.sub (ws' := [(q_t, .inr (1, [.ref q1])), (q1, .inl (G.2 0, 128, .inl (fun _ => 0)))]) [0, 1] rfl
  have hD9 := hD.sub (ws' := [(q_t, .inr (1, [.ref q1])), (q1, .inl (G.2 0, 128, .inl (fun _ => 0)))]) [0, 1] (by decide) rfl
  exact W.vret hx hb B.returns (fun t ht hW => ⟨⟨fun k => List.getD [q_t, q1] k 0, rfl, trivial, by rw [ht]; exact hP9, hD9⟩, hS.F ht⟩) hS.2.2 dX2_init_13 B.notSynchronized
set_option maxRecDepth 20000 in
theorem wd_X3_init_1 : Cond.methodLink RX3 3 objectInit ∈ wsX3_init := List.mem_of_getElem? (i := 1) (by decide +kernel)
set_option maxRecDepth 20000 in
theorem wd_X3_init_2 : Cond.instanceMethod objectInit ∈ wsX3_init := List.mem_of_getElem? (i := 2) (by decide +kernel)
set_option maxRecDepth 20000 in
theorem wd_X3_init_3 : Cond.code objectInit ⟨#[0xb1]⟩ 1 none ∈ wsX3_init := List.mem_of_getElem? (i := 3) (by decide +kernel)
set_option maxRecDepth 20000 in
theorem wd_X3_init_4 : Cond.classLink RX3 9 RX4 ∈ wsX3_init := List.mem_of_getElem? (i := 4) (by decide +kernel)
set_option maxRecDepth 20000 in
theorem wd_X3_init_5 : Cond.fieldLink RX3 11 "PermanentDesk$History" "states" "[LPermanentDesk$Matrix;" ∈ wsX3_init := List.mem_of_getElem? (i := 5) (by decide +kernel)
set_option maxRecDepth 20000 in
theorem wi_X3_init_X3 : ∀ w ∈ u_ws RX3 TX3 3, w ∈ wsX3_init := by decide +kernel
set_option maxRecDepth 20000 in
theorem wi_X3_init_X4 : ∀ w ∈ u_ws RX4 TX4 2, w ∈ wsX3_init := by decide +kernel
set_option maxRecDepth 20000 in
theorem wd_X3_init_6 : Cond.instantiable RX4 2 ∈ wsX3_init := List.mem_of_getElem? (i := 6) (by decide +kernel)
set_option maxRecDepth 20000 in
theorem wd_X3_init_7 : Cond.initialized RX4 ∈ wsX3_init := List.mem_of_getElem? (i := 7) (by decide +kernel)
set_option maxRecDepth 20000 in
theorem wd_X3_init_10 : Cond.methodLink RX3 17 yX4_init ∈ wsX3_init := List.mem_of_getElem? (i := 10) (by decide +kernel)
set_option maxRecDepth 20000 in
theorem wd_X3_init_11 : Cond.instanceMethod yX4_init ∈ wsX3_init := List.mem_of_getElem? (i := 11) (by decide +kernel)
set_option maxRecDepth 20000 in
theorem wd_X3_init_8 : Cond.fieldLink RX3 18 "PermanentDesk$History" "oldest" "I" ∈ wsX3_init := List.mem_of_getElem? (i := 8) (by decide +kernel)
set_option maxRecDepth 20000 in
theorem wd_X3_init_9 : Cond.fieldLink RX3 22 "PermanentDesk$History" "count" "I" ∈ wsX3_init := List.mem_of_getElem? (i := 9) (by decide +kernel)
set_option maxHeartbeats 4000000 in
set_option maxRecDepth 100000 in
theorem c_X3_init (l : Launch) (G : GT) (q_t : Nat) (sz : Nat) : Met l yX3_init wsX3_init ({ frames := 2, cells := 9, slots := 208, locals := 40 } : Room) (va_Pc [.ref q_t] (pcA G [(q_t, .inr (2, [.null, .int 0, .int 0]))] sz)) (va_Qv (fun (_ : Nat → Nat) => True) (fun u t => atW G (va_A [(q_t, .inr (2, [.null, .int 0, .int 0]))] sz) [(q_t, .inr (2, [.ref (u 1), .int 0, .int 0])), ((u 1), .inl (G.2 4, 4, .inr (.inr (.inr (.inr (st4 (u 2) (u 4) (u 6) (u 8))))))), ((u 2), .inr (3, [.ref (u 3), .int 3])), ((u 3), .inl (G.2 0, 49, .inl (fun _ => 0))), ((u 4), .inr (3, [.ref (u 5), .int 3])), ((u 5), .inl (G.2 0, 49, .inl (fun _ => 0))), ((u 6), .inr (3, [.ref (u 7), .int 3])), ((u 7), .inl (G.2 0, 49, .inl (fun _ => 0))), ((u 8), .inr (3, [.ref (u 9), .int 3])), ((u 9), .inl (G.2 0, 49, .inl (fun _ => 0)))] t) (va_A [(q_t, .inr (2, [.null, .int 0, .int 0]))] sz)) 9 208 (va_A [(q_t, .inr (2, [.null, .int 0, .int 0]))] sz) := by
  refine Met.ofW (cc := cX3_init) (maxL := 2) (ret := none) (by decide) rfl ?_
  intro p e s m args below meth c s₁ B hml hv
  obtain ⟨rfl, ⟨hsz, hP, hK, hD0⟩, hAO⟩ := hv
  subst hsz
  have hD := hD0.self (sz := s.heap.size)
  generalize hAe : va_A [(q_t, .inr (2, [.null, .int 0, .int 0]))] s.heap.size = A at hD ⊢
  have hA : ∀ q : Nat, s.heap.size ≤ q → A q := fun q h => by rw [← hAe]; exact Or.inr h
  have hx := B.exec
  have hb := B.bytes
  have hown : s.vm.findClass RX3 = some m.cls := findClass_of_methodNamed B.named
  have hts := atoms_spec (ws := wsX3_init) B.pre
  have hin : meth.name = "<init>" := (name_of_methodNamed B.named B.method).1
  have hS : va_S A s.heap s.heap [] := va_S.rf
  have hl := lv_entry ([.ref q_t]) (n := 2) (Nat.le_of_ble_eq_true rfl)
  rw [lg_entry_eq]
  generalize (lg_sl ([.ref q_t]) ++ List.replicate (2 - (lg_sl ([.ref q_t])).length) Slot.unset).toArray = ls at hl ⊢
  have hl : lv_has ls 2 [(0, .ref q_t)] := hl
  refine lv_aload_n hx hb dX3_init_0 rfl (lv_at hl 0 rfl) ?_
  refine W.objInit hx hb hown (hts _ wd_X3_init_1) (hts _ wd_X3_init_2) (hts _ wd_X3_init_3) rfl (by rw [hml]; exact hl.1) rfl dX3_init_1 (Nat.le_of_ble_eq_true rfl) (Nat.le_of_ble_eq_true rfl) ?_
  refine W.eq (g2 := F0 m 4 ls []) rfl ?_
  refine lv_aload_n hx hb dX3_init_4 rfl (lv_at hl 0 rfl) ?_
  refine lv_iconst (v := 4) hx hb dX3_init_5 (by decide) ?_
  refine va_newq (D := G.1) (C := RX4) (N' := 4) hx hb hown (hts _ wd_X3_init_4) hAO hK hP hD hS hA (by decide) (by decide) (Nat.le_of_ble_eq_true rfl) (Nat.le_of_ble_eq_true rfl) (Nat.le_of_ble_eq_true rfl) dX3_init_6 (fun q1 cA H hK2 hP hD hS => ?_)
  obtain rfl : cA = G.2 4 := gK_uni_mat hK2
  refine W.widen (k := 1) (n := 4) (Nat.le_of_ble_eq_true rfl) (Nat.le_of_ble_eq_true rfl) ?_
  have hP : va_P G.1 vwCl [(q_t, .inr (2, [.null, .int 0, .int 0])), (q1, .inl (G.2 4, 4, .inr (.inr (.inr (.inr (fun _ => none))))))] H := hP
  have hD : va_D A [(q_t, .inr (2, [.null, .int 0, .int 0])), (q1, .inl (G.2 4, 4, .inr (.inr (.inr (.inr (fun _ => none))))))] := hD
  refine va_putF (D := G.1) (ci := 2) (v := .ref q1) (ty := .array (.object "PermanentDesk$Matrix")) (C := RX3) (T := TX3) (N := 3) hx hb hts wi_X3_init_X3 tyX3 tyX3_ok nmX3 hown hK hP hD hS 0 rfl rfl 0 (by decide) (hts _ wd_X3_init_5) (fun _ h9 => h9) rfl hin rfl (by decide +kernel) rfl rfl (Nat.le_of_ble_eq_true rfl) dX3_init_9 (fun H locs hP hD hS => ?_)
  have hP : va_P G.1 vwCl [(q_t, .inr (2, [.ref q1, .int 0, .int 0])), (q1, .inl (G.2 4, 4, .inr (.inr (.inr (.inr (fun _ => none))))))] H := hP
  have hD : va_D A [(q_t, .inr (2, [.ref q1, .int 0, .int 0])), (q1, .inl (G.2 4, 4, .inr (.inr (.inr (.inr (fun _ => none))))))] := hD
  refine lv_iconst (v := 0) hx hb dX3_init_12 (by decide) ?_
  refine lv_istore_n (lv' := [(1, .int 0), (0, .ref q_t)]) hx hb dX3_init_13 rfl hl (by decide) rfl (fun ls hl => ?_)
  refine lv_iload_n hx hb dX3_init_14 rfl (lv_at hl 0 rfl) ?_
  refine lv_iconst (v := 4) hx hb dX3_init_15 (by decide) ?_
  refine lv_icmp_ge (tgt := 38) hx hb dX3_init_16 (by decide) (fun c9 => absurd c9 (by decide)) (fun c9 => ?_)
  refine lv_aload_n hx hb dX3_init_19 rfl (lv_at hl 1 rfl) ?_
  refine va_get (D := G.1) (ci := 2) (v := .ref q1) (C := RX3) (T := TX3) (N := 3) hx hb hts wi_X3_init_X3 hown hK hP 0 rfl rfl 0 (by decide) (hts _ wd_X3_init_5) (fun _ h9 => h9) rfl dX3_init_20 ?_
  refine lv_iload_n hx hb dX3_init_23 rfl (lv_at hl 0 rfl) ?_
  refine va_new (D := G.1) (ci := 3) (fs := [.null, .int 0]) (C := RX4) (T := TX4) (N := 2) hx hb hts wi_X3_init_X4 tyX4 tyX4_ok hown (hts _ wd_X3_init_4) (hts _ wd_X3_init_6) (hts _ wd_X3_init_7) hK hP hD hS hA rfl (fun j hj => by rcases (show j = 0 ∨ j = 1 by omega) with rfl | rfl <;> rfl) (Nat.le_of_ble_eq_true rfl) (Nat.le_of_ble_eq_true rfl) dX3_init_24 (fun q2 H hP hD hS => ?_)
  refine W.widen (k := 2) (n := 6) (Nat.le_of_ble_eq_true rfl) (Nat.le_of_ble_eq_true rfl) ?_
  have hP : va_P G.1 vwCl [(q_t, .inr (2, [.ref q1, .int 0, .int 0])), (q1, .inl (G.2 4, 4, .inr (.inr (.inr (.inr (fun _ => none)))))), (q2, .inr (3, [.null, .int 0]))] H := hP
  have hD : va_D A [(q_t, .inr (2, [.ref q1, .int 0, .int 0])), (q1, .inl (G.2 4, 4, .inr (.inr (.inr (.inr (fun _ => none)))))), (q2, .inr (3, [.null, .int 0]))] := hD
  refine lv_dup hx hb dX3_init_27 rfl ?_
  refine ck_I (rest := [.ref q2, .int 0, .ref q1]) ⟨hx, hb, hml, hown, hts⟩ hK hAO hP hD hS hA [2] [0, 1] (c_X4_init l G q2 _) (cwI 0 hts gX3_init_X4_init rfl rfl rfl (hts _ wd_X3_init_7) (hts _ wd_X3_init_10) (hts _ wd_X3_init_11) rfl (by decide +kernel) ⟨Nat.le_of_ble_eq_true rfl, Nat.le_of_ble_eq_true rfl⟩) rfl rfl rfl rfl (by decide) hl.1 rfl (Nat.le_of_ble_eq_true rfl) dX3_init_28 ⟨Nat.le_of_ble_eq_true rfl, Nat.le_of_ble_eq_true rfl⟩ (fun u3 H locs hP hD hS => ?_)
  refine W.widen (k := 3) (n := 55) (Nat.le_of_ble_eq_true rfl) (Nat.le_of_ble_eq_true rfl) ?_
  have hP : va_P G.1 vwCl [(q_t, .inr (2, [.ref q1, .int 0, .int 0])), (q1, .inl (G.2 4, 4, .inr (.inr (.inr (.inr (fun _ => none)))))), (q2, .inr (3, [.ref (u3 1), .int 3])), ((u3 1), .inl (G.2 0, 49, .inl (fun _ => 0)))] H := hP
  have hD : va_D A [(q_t, .inr (2, [.ref q1, .int 0, .int 0])), (q1, .inl (G.2 4, 4, .inr (.inr (.inr (.inr (fun _ => none)))))), (q2, .inr (3, [.ref (u3 1), .int 3])), ((u3 1), .inl (G.2 0, 49, .inl (fun _ => 0)))] := hD
  refine va_astq (D := G.1) hx hb hK hP hD hS 1 4 2 3 rfl rfl rfl rfl (by decide : okI (0 : Int32) 4) dX3_init_31 (fun H locs hP hD hS => ?_)
  have hP : va_P G.1 vwCl [(q_t, .inr (2, [.ref q1, .int 0, .int 0])), (q1, .inl (G.2 4, 4, .inr (.inr (.inr (.inr (va_up (fun _ => none) (0 : Int32).toNatClampNeg (some q2))))))), (q2, .inr (3, [.ref (u3 1), .int 3])), ((u3 1), .inl (G.2 0, 49, .inl (fun _ => 0)))] H := hP
  have hD : va_D A [(q_t, .inr (2, [.ref q1, .int 0, .int 0])), (q1, .inl (G.2 4, 4, .inr (.inr (.inr (.inr (va_up (fun _ => none) (0 : Int32).toNatClampNeg (some q2))))))), (q2, .inr (3, [.ref (u3 1), .int 3])), ((u3 1), .inl (G.2 0, 49, .inl (fun _ => 0)))] := hD
  refine lv_iinc (v := 1) (lv' := [(1, .int 1), (0, .ref q_t)]) hx hb dX3_init_32 hl (k := 0) rfl (by decide) (by decide) rfl (fun ls hl => ?_)
  refine lv_goto (tgt := 14) hx hb dX3_init_35 (by decide) ?_
  refine lv_iload_n hx hb dX3_init_14 rfl (lv_at hl 0 rfl) ?_
  refine lv_iconst (v := 4) hx hb dX3_init_15 (by decide) ?_
  refine lv_icmp_ge (tgt := 38) hx hb dX3_init_16 (by decide) (fun c9 => absurd c9 (by decide)) (fun c9 => ?_)
  refine lv_aload_n hx hb dX3_init_19 rfl (lv_at hl 1 rfl) ?_
  refine va_get (D := G.1) (ci := 2) (v := .ref q1) (C := RX3) (T := TX3) (N := 3) hx hb hts wi_X3_init_X3 hown hK hP 0 rfl rfl 0 (by decide) (hts _ wd_X3_init_5) (fun _ h9 => h9) rfl dX3_init_20 ?_
  refine lv_iload_n hx hb dX3_init_23 rfl (lv_at hl 0 rfl) ?_
  refine va_new (D := G.1) (ci := 3) (fs := [.null, .int 0]) (C := RX4) (T := TX4) (N := 2) hx hb hts wi_X3_init_X4 tyX4 tyX4_ok hown (hts _ wd_X3_init_4) (hts _ wd_X3_init_6) (hts _ wd_X3_init_7) hK hP hD hS hA rfl (fun j hj => by rcases (show j = 0 ∨ j = 1 by omega) with rfl | rfl <;> rfl) (Nat.le_of_ble_eq_true rfl) (Nat.le_of_ble_eq_true rfl) dX3_init_24 (fun q4 H hP hD hS => ?_)
  refine W.widen (k := 4) (n := 57) (Nat.le_of_ble_eq_true rfl) (Nat.le_of_ble_eq_true rfl) ?_
  have hP : va_P G.1 vwCl [(q_t, .inr (2, [.ref q1, .int 0, .int 0])), (q1, .inl (G.2 4, 4, .inr (.inr (.inr (.inr (va_up (fun _ => none) (0 : Int32).toNatClampNeg (some q2))))))), (q2, .inr (3, [.ref (u3 1), .int 3])), ((u3 1), .inl (G.2 0, 49, .inl (fun _ => 0))), (q4, .inr (3, [.null, .int 0]))] H := hP
  have hD : va_D A [(q_t, .inr (2, [.ref q1, .int 0, .int 0])), (q1, .inl (G.2 4, 4, .inr (.inr (.inr (.inr (va_up (fun _ => none) (0 : Int32).toNatClampNeg (some q2))))))), (q2, .inr (3, [.ref (u3 1), .int 3])), ((u3 1), .inl (G.2 0, 49, .inl (fun _ => 0))), (q4, .inr (3, [.null, .int 0]))] := hD
  refine lv_dup hx hb dX3_init_27 rfl ?_
  refine ck_I (rest := [.ref q4, .int 1, .ref q1]) ⟨hx, hb, hml, hown, hts⟩ hK hAO hP hD hS hA [4] [0, 1, 2, 3] (c_X4_init l G q4 _) (cwI 0 hts gX3_init_X4_init rfl rfl rfl (hts _ wd_X3_init_7) (hts _ wd_X3_init_10) (hts _ wd_X3_init_11) rfl (by decide +kernel) ⟨Nat.le_of_ble_eq_true rfl, Nat.le_of_ble_eq_true rfl⟩) rfl rfl rfl rfl (by decide) hl.1 rfl (Nat.le_of_ble_eq_true rfl) dX3_init_28 ⟨Nat.le_of_ble_eq_true rfl, Nat.le_of_ble_eq_true rfl⟩ (fun u5 H locs hP hD hS => ?_)
  refine W.widen (k := 5) (n := 106) (Nat.le_of_ble_eq_true rfl) (Nat.le_of_ble_eq_true rfl) ?_
  have hP : va_P G.1 vwCl [(q_t, .inr (2, [.ref q1, .int 0, .int 0])), (q1, .inl (G.2 4, 4, .inr (.inr (.inr (.inr (va_up (fun _ => none) (0 : Int32).toNatClampNeg (some q2))))))), (q2, .inr (3, [.ref (u3 1), .int 3])), ((u3 1), .inl (G.2 0, 49, .inl (fun _ => 0))), (q4, .inr (3, [.ref (u5 1), .int 3])), ((u5 1), .inl (G.2 0, 49, .inl (fun _ => 0)))] H := hP
  have hD : va_D A [(q_t, .inr (2, [.ref q1, .int 0, .int 0])), (q1, .inl (G.2 4, 4, .inr (.inr (.inr (.inr (va_up (fun _ => none) (0 : Int32).toNatClampNeg (some q2))))))), (q2, .inr (3, [.ref (u3 1), .int 3])), ((u3 1), .inl (G.2 0, 49, .inl (fun _ => 0))), (q4, .inr (3, [.ref (u5 1), .int 3])), ((u5 1), .inl (G.2 0, 49, .inl (fun _ => 0)))] := hD
  refine va_astq (D := G.1) hx hb hK hP hD hS 1 4 4 3 rfl rfl rfl rfl (by decide : okI (1 : Int32) 4) dX3_init_31 (fun H locs hP hD hS => ?_)
  have hP : va_P G.1 vwCl [(q_t, .inr (2, [.ref q1, .int 0, .int 0])), (q1, .inl (G.2 4, 4, .inr (.inr (.inr (.inr (va_up (va_up (fun _ => none) (0 : Int32).toNatClampNeg (some q2)) (1 : Int32).toNatClampNeg (some q4))))))), (q2, .inr (3, [.ref (u3 1), .int 3])), ((u3 1), .inl (G.2 0, 49, .inl (fun _ => 0))), (q4, .inr (3, [.ref (u5 1), .int 3])), ((u5 1), .inl (G.2 0, 49, .inl (fun _ => 0)))] H := hP
  have hD : va_D A [(q_t, .inr (2, [.ref q1, .int 0, .int 0])), (q1, .inl (G.2 4, 4, .inr (.inr (.inr (.inr (va_up (va_up (fun _ => none) (0 : Int32).toNatClampNeg (some q2)) (1 : Int32).toNatClampNeg (some q4))))))), (q2, .inr (3, [.ref (u3 1), .int 3])), ((u3 1), .inl (G.2 0, 49, .inl (fun _ => 0))), (q4, .inr (3, [.ref (u5 1), .int 3])), ((u5 1), .inl (G.2 0, 49, .inl (fun _ => 0)))] := hD
  refine lv_iinc (v := 2) (lv' := [(1, .int 2), (0, .ref q_t)]) hx hb dX3_init_32 hl (k := 0) rfl (by decide) (by decide) rfl (fun ls hl => ?_)
  refine lv_goto (tgt := 14) hx hb dX3_init_35 (by decide) ?_
  refine lv_iload_n hx hb dX3_init_14 rfl (lv_at hl 0 rfl) ?_
  refine lv_iconst (v := 4) hx hb dX3_init_15 (by decide) ?_
  refine lv_icmp_ge (tgt := 38) hx hb dX3_init_16 (by decide) (fun c9 => absurd c9 (by decide)) (fun c9 => ?_)
  refine lv_aload_n hx hb dX3_init_19 rfl (lv_at hl 1 rfl) ?_
  refine va_get (D := G.1) (ci := 2) (v := .ref q1) (C := RX3) (T := TX3) (N := 3) hx hb hts wi_X3_init_X3 hown hK hP 0 rfl rfl 0 (by decide) (hts _ wd_X3_init_5) (fun _ h9 => h9) rfl dX3_init_20 ?_
  refine lv_iload_n hx hb dX3_init_23 rfl (lv_at hl 0 rfl) ?_
  refine va_new (D := G.1) (ci := 3) (fs := [.null, .int 0]) (C := RX4) (T := TX4) (N := 2) hx hb hts wi_X3_init_X4 tyX4 tyX4_ok hown (hts _ wd_X3_init_4) (hts _ wd_X3_init_6) (hts _ wd_X3_init_7) hK hP hD hS hA rfl (fun j hj => by rcases (show j = 0 ∨ j = 1 by omega) with rfl | rfl <;> rfl) (Nat.le_of_ble_eq_true rfl) (Nat.le_of_ble_eq_true rfl) dX3_init_24 (fun q6 H hP hD hS => ?_)
  refine W.widen (k := 6) (n := 108) (Nat.le_of_ble_eq_true rfl) (Nat.le_of_ble_eq_true rfl) ?_
  have hP : va_P G.1 vwCl [(q_t, .inr (2, [.ref q1, .int 0, .int 0])), (q1, .inl (G.2 4, 4, .inr (.inr (.inr (.inr (va_up (va_up (fun _ => none) (0 : Int32).toNatClampNeg (some q2)) (1 : Int32).toNatClampNeg (some q4))))))), (q2, .inr (3, [.ref (u3 1), .int 3])), ((u3 1), .inl (G.2 0, 49, .inl (fun _ => 0))), (q4, .inr (3, [.ref (u5 1), .int 3])), ((u5 1), .inl (G.2 0, 49, .inl (fun _ => 0))), (q6, .inr (3, [.null, .int 0]))] H := hP
  have hD : va_D A [(q_t, .inr (2, [.ref q1, .int 0, .int 0])), (q1, .inl (G.2 4, 4, .inr (.inr (.inr (.inr (va_up (va_up (fun _ => none) (0 : Int32).toNatClampNeg (some q2)) (1 : Int32).toNatClampNeg (some q4))))))), (q2, .inr (3, [.ref (u3 1), .int 3])), ((u3 1), .inl (G.2 0, 49, .inl (fun _ => 0))), (q4, .inr (3, [.ref (u5 1), .int 3])), ((u5 1), .inl (G.2 0, 49, .inl (fun _ => 0))), (q6, .inr (3, [.null, .int 0]))] := hD
  refine lv_dup hx hb dX3_init_27 rfl ?_
  refine ck_I (rest := [.ref q6, .int 2, .ref q1]) ⟨hx, hb, hml, hown, hts⟩ hK hAO hP hD hS hA [6] [0, 1, 2, 3, 4, 5] (c_X4_init l G q6 _) (cwI 0 hts gX3_init_X4_init rfl rfl rfl (hts _ wd_X3_init_7) (hts _ wd_X3_init_10) (hts _ wd_X3_init_11) rfl (by decide +kernel) ⟨Nat.le_of_ble_eq_true rfl, Nat.le_of_ble_eq_true rfl⟩) rfl rfl rfl rfl (by decide) hl.1 rfl (Nat.le_of_ble_eq_true rfl) dX3_init_28 ⟨Nat.le_of_ble_eq_true rfl, Nat.le_of_ble_eq_true rfl⟩ (fun u7 H locs hP hD hS => ?_)
  refine W.widen (k := 7) (n := 157) (Nat.le_of_ble_eq_true rfl) (Nat.le_of_ble_eq_true rfl) ?_
  have hP : va_P G.1 vwCl [(q_t, .inr (2, [.ref q1, .int 0, .int 0])), (q1, .inl (G.2 4, 4, .inr (.inr (.inr (.inr (va_up (va_up (fun _ => none) (0 : Int32).toNatClampNeg (some q2)) (1 : Int32).toNatClampNeg (some q4))))))), (q2, .inr (3, [.ref (u3 1), .int 3])), ((u3 1), .inl (G.2 0, 49, .inl (fun _ => 0))), (q4, .inr (3, [.ref (u5 1), .int 3])), ((u5 1), .inl (G.2 0, 49, .inl (fun _ => 0))), (q6, .inr (3, [.ref (u7 1), .int 3])), ((u7 1), .inl (G.2 0, 49, .inl (fun _ => 0)))] H := hP
  have hD : va_D A [(q_t, .inr (2, [.ref q1, .int 0, .int 0])), (q1, .inl (G.2 4, 4, .inr (.inr (.inr (.inr (va_up (va_up (fun _ => none) (0 : Int32).toNatClampNeg (some q2)) (1 : Int32).toNatClampNeg (some q4))))))), (q2, .inr (3, [.ref (u3 1), .int 3])), ((u3 1), .inl (G.2 0, 49, .inl (fun _ => 0))), (q4, .inr (3, [.ref (u5 1), .int 3])), ((u5 1), .inl (G.2 0, 49, .inl (fun _ => 0))), (q6, .inr (3, [.ref (u7 1), .int 3])), ((u7 1), .inl (G.2 0, 49, .inl (fun _ => 0)))] := hD
  refine va_astq (D := G.1) hx hb hK hP hD hS 1 4 6 3 rfl rfl rfl rfl (by decide : okI (2 : Int32) 4) dX3_init_31 (fun H locs hP hD hS => ?_)
  have hP : va_P G.1 vwCl [(q_t, .inr (2, [.ref q1, .int 0, .int 0])), (q1, .inl (G.2 4, 4, .inr (.inr (.inr (.inr (va_up (va_up (va_up (fun _ => none) (0 : Int32).toNatClampNeg (some q2)) (1 : Int32).toNatClampNeg (some q4)) (2 : Int32).toNatClampNeg (some q6))))))), (q2, .inr (3, [.ref (u3 1), .int 3])), ((u3 1), .inl (G.2 0, 49, .inl (fun _ => 0))), (q4, .inr (3, [.ref (u5 1), .int 3])), ((u5 1), .inl (G.2 0, 49, .inl (fun _ => 0))), (q6, .inr (3, [.ref (u7 1), .int 3])), ((u7 1), .inl (G.2 0, 49, .inl (fun _ => 0)))] H := hP
  have hD : va_D A [(q_t, .inr (2, [.ref q1, .int 0, .int 0])), (q1, .inl (G.2 4, 4, .inr (.inr (.inr (.inr (va_up (va_up (va_up (fun _ => none) (0 : Int32).toNatClampNeg (some q2)) (1 : Int32).toNatClampNeg (some q4)) (2 : Int32).toNatClampNeg (some q6))))))), (q2, .inr (3, [.ref (u3 1), .int 3])), ((u3 1), .inl (G.2 0, 49, .inl (fun _ => 0))), (q4, .inr (3, [.ref (u5 1), .int 3])), ((u5 1), .inl (G.2 0, 49, .inl (fun _ => 0))), (q6, .inr (3, [.ref (u7 1), .int 3])), ((u7 1), .inl (G.2 0, 49, .inl (fun _ => 0)))] := hD
  refine lv_iinc (v := 3) (lv' := [(1, .int 3), (0, .ref q_t)]) hx hb dX3_init_32 hl (k := 0) rfl (by decide) (by decide) rfl (fun ls hl => ?_)
  refine lv_goto (tgt := 14) hx hb dX3_init_35 (by decide) ?_
  refine lv_iload_n hx hb dX3_init_14 rfl (lv_at hl 0 rfl) ?_
  refine lv_iconst (v := 4) hx hb dX3_init_15 (by decide) ?_
  refine lv_icmp_ge (tgt := 38) hx hb dX3_init_16 (by decide) (fun c9 => absurd c9 (by decide)) (fun c9 => ?_)
  refine lv_aload_n hx hb dX3_init_19 rfl (lv_at hl 1 rfl) ?_
  refine va_get (D := G.1) (ci := 2) (v := .ref q1) (C := RX3) (T := TX3) (N := 3) hx hb hts wi_X3_init_X3 hown hK hP 0 rfl rfl 0 (by decide) (hts _ wd_X3_init_5) (fun _ h9 => h9) rfl dX3_init_20 ?_
  refine lv_iload_n hx hb dX3_init_23 rfl (lv_at hl 0 rfl) ?_
  refine va_new (D := G.1) (ci := 3) (fs := [.null, .int 0]) (C := RX4) (T := TX4) (N := 2) hx hb hts wi_X3_init_X4 tyX4 tyX4_ok hown (hts _ wd_X3_init_4) (hts _ wd_X3_init_6) (hts _ wd_X3_init_7) hK hP hD hS hA rfl (fun j hj => by rcases (show j = 0 ∨ j = 1 by omega) with rfl | rfl <;> rfl) (Nat.le_of_ble_eq_true rfl) (Nat.le_of_ble_eq_true rfl) dX3_init_24 (fun q8 H hP hD hS => ?_)
  refine W.widen (k := 8) (n := 159) (Nat.le_of_ble_eq_true rfl) (Nat.le_of_ble_eq_true rfl) ?_
  have hP : va_P G.1 vwCl [(q_t, .inr (2, [.ref q1, .int 0, .int 0])), (q1, .inl (G.2 4, 4, .inr (.inr (.inr (.inr (va_up (va_up (va_up (fun _ => none) (0 : Int32).toNatClampNeg (some q2)) (1 : Int32).toNatClampNeg (some q4)) (2 : Int32).toNatClampNeg (some q6))))))), (q2, .inr (3, [.ref (u3 1), .int 3])), ((u3 1), .inl (G.2 0, 49, .inl (fun _ => 0))), (q4, .inr (3, [.ref (u5 1), .int 3])), ((u5 1), .inl (G.2 0, 49, .inl (fun _ => 0))), (q6, .inr (3, [.ref (u7 1), .int 3])), ((u7 1), .inl (G.2 0, 49, .inl (fun _ => 0))), (q8, .inr (3, [.null, .int 0]))] H := hP
  have hD : va_D A [(q_t, .inr (2, [.ref q1, .int 0, .int 0])), (q1, .inl (G.2 4, 4, .inr (.inr (.inr (.inr (va_up (va_up (va_up (fun _ => none) (0 : Int32).toNatClampNeg (some q2)) (1 : Int32).toNatClampNeg (some q4)) (2 : Int32).toNatClampNeg (some q6))))))), (q2, .inr (3, [.ref (u3 1), .int 3])), ((u3 1), .inl (G.2 0, 49, .inl (fun _ => 0))), (q4, .inr (3, [.ref (u5 1), .int 3])), ((u5 1), .inl (G.2 0, 49, .inl (fun _ => 0))), (q6, .inr (3, [.ref (u7 1), .int 3])), ((u7 1), .inl (G.2 0, 49, .inl (fun _ => 0))), (q8, .inr (3, [.null, .int 0]))] := hD
  refine lv_dup hx hb dX3_init_27 rfl ?_
  refine ck_I (rest := [.ref q8, .int 3, .ref q1]) ⟨hx, hb, hml, hown, hts⟩ hK hAO hP hD hS hA [8] [0, 1, 2, 3, 4, 5, 6, 7] (c_X4_init l G q8 _) (cwI 0 hts gX3_init_X4_init rfl rfl rfl (hts _ wd_X3_init_7) (hts _ wd_X3_init_10) (hts _ wd_X3_init_11) rfl (by decide +kernel) ⟨Nat.le_of_ble_eq_true rfl, Nat.le_of_ble_eq_true rfl⟩) rfl rfl rfl rfl (by decide) hl.1 rfl (Nat.le_of_ble_eq_true rfl) dX3_init_28 ⟨Nat.le_of_ble_eq_true rfl, Nat.le_of_ble_eq_true rfl⟩ (fun u9 H locs hP hD hS => ?_)
  refine W.widen (k := 9) (n := 208) (Nat.le_of_ble_eq_true rfl) (Nat.le_of_ble_eq_true rfl) ?_
  have hP : va_P G.1 vwCl [(q_t, .inr (2, [.ref q1, .int 0, .int 0])), (q1, .inl (G.2 4, 4, .inr (.inr (.inr (.inr (va_up (va_up (va_up (fun _ => none) (0 : Int32).toNatClampNeg (some q2)) (1 : Int32).toNatClampNeg (some q4)) (2 : Int32).toNatClampNeg (some q6))))))), (q2, .inr (3, [.ref (u3 1), .int 3])), ((u3 1), .inl (G.2 0, 49, .inl (fun _ => 0))), (q4, .inr (3, [.ref (u5 1), .int 3])), ((u5 1), .inl (G.2 0, 49, .inl (fun _ => 0))), (q6, .inr (3, [.ref (u7 1), .int 3])), ((u7 1), .inl (G.2 0, 49, .inl (fun _ => 0))), (q8, .inr (3, [.ref (u9 1), .int 3])), ((u9 1), .inl (G.2 0, 49, .inl (fun _ => 0)))] H := hP
  have hD : va_D A [(q_t, .inr (2, [.ref q1, .int 0, .int 0])), (q1, .inl (G.2 4, 4, .inr (.inr (.inr (.inr (va_up (va_up (va_up (fun _ => none) (0 : Int32).toNatClampNeg (some q2)) (1 : Int32).toNatClampNeg (some q4)) (2 : Int32).toNatClampNeg (some q6))))))), (q2, .inr (3, [.ref (u3 1), .int 3])), ((u3 1), .inl (G.2 0, 49, .inl (fun _ => 0))), (q4, .inr (3, [.ref (u5 1), .int 3])), ((u5 1), .inl (G.2 0, 49, .inl (fun _ => 0))), (q6, .inr (3, [.ref (u7 1), .int 3])), ((u7 1), .inl (G.2 0, 49, .inl (fun _ => 0))), (q8, .inr (3, [.ref (u9 1), .int 3])), ((u9 1), .inl (G.2 0, 49, .inl (fun _ => 0)))] := hD
  refine va_astq (D := G.1) hx hb hK hP hD hS 1 4 8 3 rfl rfl rfl rfl (by decide : okI (3 : Int32) 4) dX3_init_31 (fun H locs hP hD hS => ?_)
  have hP : va_P G.1 vwCl [(q_t, .inr (2, [.ref q1, .int 0, .int 0])), (q1, .inl (G.2 4, 4, .inr (.inr (.inr (.inr (va_up (va_up (va_up (va_up (fun _ => none) (0 : Int32).toNatClampNeg (some q2)) (1 : Int32).toNatClampNeg (some q4)) (2 : Int32).toNatClampNeg (some q6)) (3 : Int32).toNatClampNeg (some q8))))))), (q2, .inr (3, [.ref (u3 1), .int 3])), ((u3 1), .inl (G.2 0, 49, .inl (fun _ => 0))), (q4, .inr (3, [.ref (u5 1), .int 3])), ((u5 1), .inl (G.2 0, 49, .inl (fun _ => 0))), (q6, .inr (3, [.ref (u7 1), .int 3])), ((u7 1), .inl (G.2 0, 49, .inl (fun _ => 0))), (q8, .inr (3, [.ref (u9 1), .int 3])), ((u9 1), .inl (G.2 0, 49, .inl (fun _ => 0)))] H := hP
  have hD : va_D A [(q_t, .inr (2, [.ref q1, .int 0, .int 0])), (q1, .inl (G.2 4, 4, .inr (.inr (.inr (.inr (va_up (va_up (va_up (va_up (fun _ => none) (0 : Int32).toNatClampNeg (some q2)) (1 : Int32).toNatClampNeg (some q4)) (2 : Int32).toNatClampNeg (some q6)) (3 : Int32).toNatClampNeg (some q8))))))), (q2, .inr (3, [.ref (u3 1), .int 3])), ((u3 1), .inl (G.2 0, 49, .inl (fun _ => 0))), (q4, .inr (3, [.ref (u5 1), .int 3])), ((u5 1), .inl (G.2 0, 49, .inl (fun _ => 0))), (q6, .inr (3, [.ref (u7 1), .int 3])), ((u7 1), .inl (G.2 0, 49, .inl (fun _ => 0))), (q8, .inr (3, [.ref (u9 1), .int 3])), ((u9 1), .inl (G.2 0, 49, .inl (fun _ => 0)))] := hD
  refine lv_iinc (v := 4) (lv' := [(1, .int 4), (0, .ref q_t)]) hx hb dX3_init_32 hl (k := 0) rfl (by decide) (by decide) rfl (fun ls hl => ?_)
  refine lv_goto (tgt := 14) hx hb dX3_init_35 (by decide) ?_
  refine lv_iload_n hx hb dX3_init_14 rfl (lv_at hl 0 rfl) ?_
  refine lv_iconst (v := 4) hx hb dX3_init_15 (by decide) ?_
  refine lv_icmp_ge (tgt := 38) hx hb dX3_init_16 (by decide) (fun c9 => ?_) (fun c9 => absurd (by decide) c9)
  refine lv_aload_n hx hb dX3_init_38 rfl (lv_at hl 1 rfl) ?_
  refine lv_iconst (v := 0) hx hb dX3_init_39 (by decide) ?_
  refine st_put (D := G.1) (ci := 2) (v := .int 0) (ty := .int) (C := RX3) (T := TX3) (N := 3) (wn := [(q_t, .inr (2, [.ref q1, .int 0, .int 0])), (q1, .inl (G.2 4, 4, .inr (.inr (.inr (.inr (va_up (va_up (va_up (va_up (fun _ => none) (0 : Int32).toNatClampNeg (some q2)) (1 : Int32).toNatClampNeg (some q4)) (2 : Int32).toNatClampNeg (some q6)) (3 : Int32).toNatClampNeg (some q8))))))), (q2, .inr (3, [.ref (u3 1), .int 3])), ((u3 1), .inl (G.2 0, 49, .inl (fun _ => 0))), (q4, .inr (3, [.ref (u5 1), .int 3])), ((u5 1), .inl (G.2 0, 49, .inl (fun _ => 0))), (q6, .inr (3, [.ref (u7 1), .int 3])), ((u7 1), .inl (G.2 0, 49, .inl (fun _ => 0))), (q8, .inr (3, [.ref (u9 1), .int 3])), ((u9 1), .inl (G.2 0, 49, .inl (fun _ => 0)))]) hx hb hts wi_X3_init_X3 tyX3 tyX3_ok nmX3 hown hK hP hD hS 0 rfl rfl 1 (by decide) (hts _ wd_X3_init_8) (fun _ h9 => h9) rfl (by decide +kernel) rfl rfl (Nat.le_of_ble_eq_true rfl) dX3_init_40 rfl (fun H locs hP hD hS => ?_)
  refine lv_aload_n hx hb dX3_init_43 rfl (lv_at hl 1 rfl) ?_
  refine lv_iconst (v := 0) hx hb dX3_init_44 (by decide) ?_
  refine st_put (D := G.1) (ci := 2) (v := .int 0) (ty := .int) (C := RX3) (T := TX3) (N := 3) (wn := [(q_t, .inr (2, [.ref q1, .int 0, .int 0])), (q1, .inl (G.2 4, 4, .inr (.inr (.inr (.inr (va_up (va_up (va_up (va_up (fun _ => none) (0 : Int32).toNatClampNeg (some q2)) (1 : Int32).toNatClampNeg (some q4)) (2 : Int32).toNatClampNeg (some q6)) (3 : Int32).toNatClampNeg (some q8))))))), (q2, .inr (3, [.ref (u3 1), .int 3])), ((u3 1), .inl (G.2 0, 49, .inl (fun _ => 0))), (q4, .inr (3, [.ref (u5 1), .int 3])), ((u5 1), .inl (G.2 0, 49, .inl (fun _ => 0))), (q6, .inr (3, [.ref (u7 1), .int 3])), ((u7 1), .inl (G.2 0, 49, .inl (fun _ => 0))), (q8, .inr (3, [.ref (u9 1), .int 3])), ((u9 1), .inl (G.2 0, 49, .inl (fun _ => 0)))]) hx hb hts wi_X3_init_X3 tyX3 tyX3_ok nmX3 hown hK hP hD hS 0 rfl rfl 2 (by decide) (hts _ wd_X3_init_9) (fun _ h9 => h9) rfl (by decide +kernel) rfl rfl (Nat.le_of_ble_eq_true rfl) dX3_init_45 rfl (fun H locs hP hD hS => ?_)
  rw [st4_up] at hP hD
  have hP : va_P G.1 vwCl [(q_t, .inr (2, [.ref q1, .int 0, .int 0])), (q1, .inl (G.2 4, 4, .inr (.inr (.inr (.inr (st4 q2 q4 q6 q8)))))), (q2, .inr (3, [.ref (u3 1), .int 3])), ((u3 1), .inl (G.2 0, 49, .inl (fun _ => 0))), (q4, .inr (3, [.ref (u5 1), .int 3])), ((u5 1), .inl (G.2 0, 49, .inl (fun _ => 0))), (q6, .inr (3, [.ref (u7 1), .int 3])), ((u7 1), .inl (G.2 0, 49, .inl (fun _ => 0))), (q8, .inr (3, [.ref (u9 1), .int 3])), ((u9 1), .inl (G.2 0, 49, .inl (fun _ => 0)))] H := hP
  have hD : va_D A [(q_t, .inr (2, [.ref q1, .int 0, .int 0])), (q1, .inl (G.2 4, 4, .inr (.inr (.inr (.inr (st4 q2 q4 q6 q8)))))), (q2, .inr (3, [.ref (u3 1), .int 3])), ((u3 1), .inl (G.2 0, 49, .inl (fun _ => 0))), (q4, .inr (3, [.ref (u5 1), .int 3])), ((u5 1), .inl (G.2 0, 49, .inl (fun _ => 0))), (q6, .inr (3, [.ref (u7 1), .int 3])), ((u7 1), .inl (G.2 0, 49, .inl (fun _ => 0))), (q8, .inr (3, [.ref (u9 1), .int 3])), ((u9 1), .inl (G.2 0, 49, .inl (fun _ => 0)))] := hD
  have hP9 := hP.sub (ws' := [(q_t, .inr (2, [.ref q1, .int 0, .int 0])), (q1, .inl (G.2 4, 4, .inr (.inr (.inr (.inr (st4 q2 q4 q6 q8)))))), (q2, .inr (3, [.ref (u3 1), .int 3])), ((u3 1), .inl (G.2 0, 49, .inl (fun _ => 0))), (q4, .inr (3, [.ref (u5 1), .int 3])), ((u5 1), .inl (G.2 0, 49, .inl (fun _ => 0))), (q6, .inr (3, [.ref (u7 1), .int 3])), ((u7 1), .inl (G.2 0, 49, .inl (fun _ => 0))), (q8, .inr (3, [.ref (u9 1), .int 3])), ((u9 1), .inl (G.2 0, 49, .inl (fun _ => 0)))]) [0, 1, 2, 3, 4, 5, 6, 7, 8, 9] rfl
  have hD9 := hD.sub (ws' := [(q_t, .inr (2, [.ref q1, .int 0, .int 0])), (q1, .inl (G.2 4, 4, .inr (.inr (.inr (.inr (st4 q2 q4 q6 q8)))))), (q2, .inr (3, [.ref (u3 1), .int 3])), ((u3 1), .inl (G.2 0, 49, .inl (fun _ => 0))), (q4, .inr (3, [.ref (u5 1), .int 3])), ((u5 1), .inl (G.2 0, 49, .inl (fun _ => 0))), (q6, .inr (3, [.ref (u7 1), .int 3])), ((u7 1), .inl (G.2 0, 49, .inl (fun _ => 0))), (q8, .inr (3, [.ref (u9 1), .int 3])), ((u9 1), .inl (G.2 0, 49, .inl (fun _ => 0)))]) [0, 1, 2, 3, 4, 5, 6, 7, 8, 9] (by decide) rfl
  exact W.vret hx hb B.returns (fun t ht hW => ⟨⟨fun k => List.getD [q_t, q1, q2, (u3 1), q4, (u5 1), q6, (u7 1), q8, (u9 1)] k 0, rfl, trivial, by rw [ht]; exact hP9, hD9⟩, hS.F ht⟩) hS.2.2 dX3_init_48 B.notSynchronized
set_option maxRecDepth 20000 in
theorem wd_X5_init_1 : Cond.methodLink RX5 3 objectInit ∈ wsX5_init := List.mem_of_getElem? (i := 1) (by decide +kernel)
set_option maxRecDepth 20000 in
theorem wd_X5_init_2 : Cond.instanceMethod objectInit ∈ wsX5_init := List.mem_of_getElem? (i := 2) (by decide +kernel)
set_option maxRecDepth 20000 in
theorem wd_X5_init_3 : Cond.code objectInit ⟨#[0xb1]⟩ 1 none ∈ wsX5_init := List.mem_of_getElem? (i := 3) (by decide +kernel)
set_option maxRecDepth 20000 in
theorem wd_X5_init_4 : Cond.arrayClass .double ∈ wsX5_init := List.mem_of_getElem? (i := 4) (by decide +kernel)
set_option maxRecDepth 20000 in
theorem wd_X5_init_5 : Cond.fieldLink RX5 9 "PermanentDesk$Scaling" "cells" "[D" ∈ wsX5_init := List.mem_of_getElem? (i := 5) (by decide +kernel)
set_option maxRecDepth 20000 in
theorem wi_X5_init_X5 : ∀ w ∈ u_ws RX5 TX5 4, w ∈ wsX5_init := by decide +kernel
set_option maxRecDepth 20000 in
theorem wd_X5_init_6 : Cond.fieldLink RX5 15 "PermanentDesk$Scaling" "rowFactors" "[D" ∈ wsX5_init := List.mem_of_getElem? (i := 6) (by decide +kernel)
set_option maxRecDepth 20000 in
theorem wd_X5_init_7 : Cond.fieldLink RX5 18 "PermanentDesk$Scaling" "columnFactors" "[D" ∈ wsX5_init := List.mem_of_getElem? (i := 7) (by decide +kernel)
set_option maxRecDepth 20000 in
theorem wd_X5_init_8 : Cond.fieldLink RX5 21 "PermanentDesk$Scaling" "size" "I" ∈ wsX5_init := List.mem_of_getElem? (i := 8) (by decide +kernel)
set_option maxHeartbeats 4000000 in
set_option maxRecDepth 100000 in
theorem c_X5_init (l : Launch) (G : GT) (q_t : Nat) (sz : Nat) : Met l yX5_init wsX5_init ({ frames := 1, cells := 3, slots := 63, locals := 20 } : Room) (va_Pc [.ref q_t] (pcA G [(q_t, .inr (4, [.null, .null, .null, .int 0]))] sz)) (va_Qv (fun (_ : Nat → Nat) => True) (fun u t => atW G (va_A [(q_t, .inr (4, [.null, .null, .null, .int 0]))] sz) [(q_t, .inr (4, [.ref (u 1), .ref (u 2), .ref (u 3), .int 0])), ((u 1), .inl (G.2 2, 49, .inr (.inr (.inr (.inl (fun _ => 0)))))), ((u 2), .inl (G.2 2, 7, .inr (.inr (.inr (.inl (fun _ => 0)))))), ((u 3), .inl (G.2 2, 7, .inr (.inr (.inr (.inl (fun _ => 0))))))] t) (va_A [(q_t, .inr (4, [.null, .null, .null, .int 0]))] sz)) 3 63 (va_A [(q_t, .inr (4, [.null, .null, .null, .int 0]))] sz) := by
  refine Met.ofW (cc := cX5_init) (maxL := 1) (ret := none) (by decide) rfl ?_
  intro p e s m args below meth c s₁ B hml hv
  obtain ⟨rfl, ⟨hsz, hP, hK, hD0⟩, hAO⟩ := hv
  subst hsz
  have hD := hD0.self (sz := s.heap.size)
  generalize hAe : va_A [(q_t, .inr (4, [.null, .null, .null, .int 0]))] s.heap.size = A at hD ⊢
  have hA : ∀ q : Nat, s.heap.size ≤ q → A q := fun q h => by rw [← hAe]; exact Or.inr h
  have hx := B.exec
  have hb := B.bytes
  have hown : s.vm.findClass RX5 = some m.cls := findClass_of_methodNamed B.named
  have hts := atoms_spec (ws := wsX5_init) B.pre
  have hin : meth.name = "<init>" := (name_of_methodNamed B.named B.method).1
  have hS : va_S A s.heap s.heap [] := va_S.rf
  have hl := lv_entry ([.ref q_t]) (n := 1) (Nat.le_of_ble_eq_true rfl)
  rw [lg_entry_eq]
  generalize (lg_sl ([.ref q_t]) ++ List.replicate (1 - (lg_sl ([.ref q_t])).length) Slot.unset).toArray = ls at hl ⊢
  have hl : lv_has ls 1 [(0, .ref q_t)] := hl
  refine lv_aload_n hx hb dX5_init_0 rfl (lv_at hl 0 rfl) ?_
  refine W.objInit hx hb hown (hts _ wd_X5_init_1) (hts _ wd_X5_init_2) (hts _ wd_X5_init_3) rfl (by rw [hml]; exact hl.1) rfl dX5_init_1 (Nat.le_of_ble_eq_true rfl) (Nat.le_of_ble_eq_true rfl) ?_
  refine W.eq (g2 := F0 m 4 ls []) rfl ?_
  refine lv_aload_n hx hb dX5_init_4 rfl (lv_at hl 0 rfl) ?_
  refine lv_bipush (v := 49) hx hb dX5_init_5 (by decide) ?_
  refine va_newa (D := G.1) (atype := .double) (ty := .double) (N' := 49) (a0 := (49, .inr (.inr (.inr (.inl (fun _ => 0)))))) hx hb (hts _ wd_X5_init_4) rfl hK hP hD hS hA (fun _ => rfl) (by decide) (by decide) (Nat.le_of_ble_eq_true rfl) (Nat.le_of_ble_eq_true rfl) (Nat.le_of_ble_eq_true rfl) dX5_init_7 (fun q1 cA H hK2 hP hD hS => ?_)
  obtain rfl : cA = G.2 2 := gK_uni_double hK2
  refine W.widen (k := 1) (n := 49) (Nat.le_of_ble_eq_true rfl) (Nat.le_of_ble_eq_true rfl) ?_
  have hP : va_P G.1 vwCl [(q_t, .inr (4, [.null, .null, .null, .int 0])), (q1, .inl (G.2 2, 49, .inr (.inr (.inr (.inl (fun _ => 0))))))] H := hP
  have hD : va_D A [(q_t, .inr (4, [.null, .null, .null, .int 0])), (q1, .inl (G.2 2, 49, .inr (.inr (.inr (.inl (fun _ => 0))))))] := hD
  refine va_putF (D := G.1) (ci := 4) (v := .ref q1) (ty := .array .double) (C := RX5) (T := TX5) (N := 4) hx hb hts wi_X5_init_X5 tyX5 tyX5_ok nmX5 hown hK hP hD hS 0 rfl rfl 0 (by decide) (hts _ wd_X5_init_5) (fun _ h9 => h9) rfl hin rfl (by decide +kernel) rfl rfl (Nat.le_of_ble_eq_true rfl) dX5_init_9 (fun H locs hP hD hS => ?_)
  have hP : va_P G.1 vwCl [(q_t, .inr (4, [.ref q1, .null, .null, .int 0])), (q1, .inl (G.2 2, 49, .inr (.inr (.inr (.inl (fun _ => 0))))))] H := hP
  have hD : va_D A [(q_t, .inr (4, [.ref q1, .null, .null, .int 0])), (q1, .inl (G.2 2, 49, .inr (.inr (.inr (.inl (fun _ => 0))))))] := hD
  refine lv_aload_n hx hb dX5_init_12 rfl (lv_at hl 0 rfl) ?_
  refine lv_bipush (v := 7) hx hb dX5_init_13 (by decide) ?_
  refine va_newa (D := G.1) (atype := .double) (ty := .double) (N' := 7) (a0 := (7, .inr (.inr (.inr (.inl (fun _ => 0)))))) hx hb (hts _ wd_X5_init_4) rfl hK hP hD hS hA (fun _ => rfl) (by decide) (by decide) (Nat.le_of_ble_eq_true rfl) (Nat.le_of_ble_eq_true rfl) (Nat.le_of_ble_eq_true rfl) dX5_init_15 (fun q2 cA H hK2 hP hD hS => ?_)
  obtain rfl : cA = G.2 2 := gK_uni_double hK2
  refine W.widen (k := 2) (n := 56) (Nat.le_of_ble_eq_true rfl) (Nat.le_of_ble_eq_true rfl) ?_
  have hP : va_P G.1 vwCl [(q_t, .inr (4, [.ref q1, .null, .null, .int 0])), (q1, .inl (G.2 2, 49, .inr (.inr (.inr (.inl (fun _ => 0)))))), (q2, .inl (G.2 2, 7, .inr (.inr (.inr (.inl (fun _ => 0))))))] H := hP
  have hD : va_D A [(q_t, .inr (4, [.ref q1, .null, .null, .int 0])), (q1, .inl (G.2 2, 49, .inr (.inr (.inr (.inl (fun _ => 0)))))), (q2, .inl (G.2 2, 7, .inr (.inr (.inr (.inl (fun _ => 0))))))] := hD
  refine va_putF (D := G.1) (ci := 4) (v := .ref q2) (ty := .array .double) (C := RX5) (T := TX5) (N := 4) hx hb hts wi_X5_init_X5 tyX5 tyX5_ok nmX5 hown hK hP hD hS 0 rfl rfl 1 (by decide) (hts _ wd_X5_init_6) (fun _ h9 => h9) rfl hin rfl (by decide +kernel) rfl rfl (Nat.le_of_ble_eq_true rfl) dX5_init_17 (fun H locs hP hD hS => ?_)
  have hP : va_P G.1 vwCl [(q_t, .inr (4, [.ref q1, .ref q2, .null, .int 0])), (q1, .inl (G.2 2, 49, .inr (.inr (.inr (.inl (fun _ => 0)))))), (q2, .inl (G.2 2, 7, .inr (.inr (.inr (.inl (fun _ => 0))))))] H := hP
  have hD : va_D A [(q_t, .inr (4, [.ref q1, .ref q2, .null, .int 0])), (q1, .inl (G.2 2, 49, .inr (.inr (.inr (.inl (fun _ => 0)))))), (q2, .inl (G.2 2, 7, .inr (.inr (.inr (.inl (fun _ => 0))))))] := hD
  refine lv_aload_n hx hb dX5_init_20 rfl (lv_at hl 0 rfl) ?_
  refine lv_bipush (v := 7) hx hb dX5_init_21 (by decide) ?_
  refine va_newa (D := G.1) (atype := .double) (ty := .double) (N' := 7) (a0 := (7, .inr (.inr (.inr (.inl (fun _ => 0)))))) hx hb (hts _ wd_X5_init_4) rfl hK hP hD hS hA (fun _ => rfl) (by decide) (by decide) (Nat.le_of_ble_eq_true rfl) (Nat.le_of_ble_eq_true rfl) (Nat.le_of_ble_eq_true rfl) dX5_init_23 (fun q3 cA H hK2 hP hD hS => ?_)
  obtain rfl : cA = G.2 2 := gK_uni_double hK2
  refine W.widen (k := 3) (n := 63) (Nat.le_of_ble_eq_true rfl) (Nat.le_of_ble_eq_true rfl) ?_
  have hP : va_P G.1 vwCl [(q_t, .inr (4, [.ref q1, .ref q2, .null, .int 0])), (q1, .inl (G.2 2, 49, .inr (.inr (.inr (.inl (fun _ => 0)))))), (q2, .inl (G.2 2, 7, .inr (.inr (.inr (.inl (fun _ => 0)))))), (q3, .inl (G.2 2, 7, .inr (.inr (.inr (.inl (fun _ => 0))))))] H := hP
  have hD : va_D A [(q_t, .inr (4, [.ref q1, .ref q2, .null, .int 0])), (q1, .inl (G.2 2, 49, .inr (.inr (.inr (.inl (fun _ => 0)))))), (q2, .inl (G.2 2, 7, .inr (.inr (.inr (.inl (fun _ => 0)))))), (q3, .inl (G.2 2, 7, .inr (.inr (.inr (.inl (fun _ => 0))))))] := hD
  refine va_putF (D := G.1) (ci := 4) (v := .ref q3) (ty := .array .double) (C := RX5) (T := TX5) (N := 4) hx hb hts wi_X5_init_X5 tyX5 tyX5_ok nmX5 hown hK hP hD hS 0 rfl rfl 2 (by decide) (hts _ wd_X5_init_7) (fun _ h9 => h9) rfl hin rfl (by decide +kernel) rfl rfl (Nat.le_of_ble_eq_true rfl) dX5_init_25 (fun H locs hP hD hS => ?_)
  have hP : va_P G.1 vwCl [(q_t, .inr (4, [.ref q1, .ref q2, .ref q3, .int 0])), (q1, .inl (G.2 2, 49, .inr (.inr (.inr (.inl (fun _ => 0)))))), (q2, .inl (G.2 2, 7, .inr (.inr (.inr (.inl (fun _ => 0)))))), (q3, .inl (G.2 2, 7, .inr (.inr (.inr (.inl (fun _ => 0))))))] H := hP
  have hD : va_D A [(q_t, .inr (4, [.ref q1, .ref q2, .ref q3, .int 0])), (q1, .inl (G.2 2, 49, .inr (.inr (.inr (.inl (fun _ => 0)))))), (q2, .inl (G.2 2, 7, .inr (.inr (.inr (.inl (fun _ => 0)))))), (q3, .inl (G.2 2, 7, .inr (.inr (.inr (.inl (fun _ => 0))))))] := hD
  refine lv_aload_n hx hb dX5_init_28 rfl (lv_at hl 0 rfl) ?_
  refine lv_iconst (v := 0) hx hb dX5_init_29 (by decide) ?_
  refine st_put (D := G.1) (ci := 4) (v := .int 0) (ty := .int) (C := RX5) (T := TX5) (N := 4) (wn := [(q_t, .inr (4, [.ref q1, .ref q2, .ref q3, .int 0])), (q1, .inl (G.2 2, 49, .inr (.inr (.inr (.inl (fun _ => 0)))))), (q2, .inl (G.2 2, 7, .inr (.inr (.inr (.inl (fun _ => 0)))))), (q3, .inl (G.2 2, 7, .inr (.inr (.inr (.inl (fun _ => 0))))))]) hx hb hts wi_X5_init_X5 tyX5 tyX5_ok nmX5 hown hK hP hD hS 0 rfl rfl 3 (by decide) (hts _ wd_X5_init_8) (fun _ h9 => h9) rfl (by decide +kernel) rfl rfl (Nat.le_of_ble_eq_true rfl) dX5_init_30 rfl (fun H locs hP hD hS => ?_)
  have hP9 := hP.sub (ws' := [(q_t, .inr (4, [.ref q1, .ref q2, .ref q3, .int 0])), (q1, .inl (G.2 2, 49, .inr (.inr (.inr (.inl (fun _ => 0)))))), (q2, .inl (G.2 2, 7, .inr (.inr (.inr (.inl (fun _ => 0)))))), (q3, .inl (G.2 2, 7, .inr (.inr (.inr (.inl (fun _ => 0))))))]) [0, 1, 2, 3] rfl
  have hD9 := hD.sub (ws' := [(q_t, .inr (4, [.ref q1, .ref q2, .ref q3, .int 0])), (q1, .inl (G.2 2, 49, .inr (.inr (.inr (.inl (fun _ => 0)))))), (q2, .inl (G.2 2, 7, .inr (.inr (.inr (.inl (fun _ => 0)))))), (q3, .inl (G.2 2, 7, .inr (.inr (.inr (.inl (fun _ => 0))))))]) [0, 1, 2, 3] (by decide) rfl
  exact W.vret hx hb B.returns (fun t ht hW => ⟨⟨fun k => List.getD [q_t, q1, q2, q3] k 0, rfl, trivial, by rw [ht]; exact hP9, hD9⟩, hS.F ht⟩) hS.2.2 dX5_init_33 B.notSynchronized
set_option maxRecDepth 20000 in
theorem wd_X6_init_1 : Cond.methodLink RX6 3 objectInit ∈ wsX6_init := List.mem_of_getElem? (i := 1) (by decide +kernel)
set_option maxRecDepth 20000 in
theorem wd_X6_init_2 : Cond.instanceMethod objectInit ∈ wsX6_init := List.mem_of_getElem? (i := 2) (by decide +kernel)
set_option maxRecDepth 20000 in
theorem wd_X6_init_3 : Cond.code objectInit ⟨#[0xb1]⟩ 1 none ∈ wsX6_init := List.mem_of_getElem? (i := 3) (by decide +kernel)
set_option maxRecDepth 20000 in
theorem wi_X6_init_X4 : ∀ w ∈ u_ws RX4 TX4 2, w ∈ wsX6_init := by decide +kernel
set_option maxRecDepth 20000 in
theorem wd_X6_init_4 : Cond.classLink RX6 9 RX4 ∈ wsX6_init := List.mem_of_getElem? (i := 4) (by decide +kernel)
set_option maxRecDepth 20000 in
theorem wd_X6_init_5 : Cond.instantiable RX4 2 ∈ wsX6_init := List.mem_of_getElem? (i := 5) (by decide +kernel)
set_option maxRecDepth 20000 in
theorem wd_X6_init_6 : Cond.initialized RX4 ∈ wsX6_init := List.mem_of_getElem? (i := 6) (by decide +kernel)
set_option maxRecDepth 20000 in
theorem wd_X6_init_16 : Cond.methodLink RX6 11 yX4_init ∈ wsX6_init := List.mem_of_getElem? (i := 16) (by decide +kernel)
set_option maxRecDepth 20000 in
theorem wd_X6_init_17 : Cond.instanceMethod yX4_init ∈ wsX6_init := List.mem_of_getElem? (i := 17) (by decide +kernel)
set_option maxRecDepth 20000 in
theorem wd_X6_init_7 : Cond.fieldLink RX6 12 "PermanentDesk$TakingApart" "left" "LPermanentDesk$Matrix;" ∈ wsX6_init := List.mem_of_getElem? (i := 7) (by decide +kernel)
set_option maxRecDepth 20000 in
theorem wi_X6_init_X6 : ∀ w ∈ u_ws RX6 TX6 5, w ∈ wsX6_init := by decide +kernel
set_option maxRecDepth 20000 in
theorem wi_X6_init_X2 : ∀ w ∈ u_ws RX2 TX2 1, w ∈ wsX6_init := by decide +kernel
set_option maxRecDepth 20000 in
theorem wd_X6_init_8 : Cond.classLink RX6 18 RX2 ∈ wsX6_init := List.mem_of_getElem? (i := 8) (by decide +kernel)
set_option maxRecDepth 20000 in
theorem wd_X6_init_9 : Cond.instantiable RX2 1 ∈ wsX6_init := List.mem_of_getElem? (i := 9) (by decide +kernel)
set_option maxRecDepth 20000 in
theorem wd_X6_init_10 : Cond.initialized RX2 ∈ wsX6_init := List.mem_of_getElem? (i := 10) (by decide +kernel)
set_option maxRecDepth 20000 in
theorem wd_X6_init_22 : Cond.methodLink RX6 20 yX2_init ∈ wsX6_init := List.mem_of_getElem? (i := 22) (by decide +kernel)
set_option maxRecDepth 20000 in
theorem wd_X6_init_23 : Cond.instanceMethod yX2_init ∈ wsX6_init := List.mem_of_getElem? (i := 23) (by decide +kernel)
set_option maxRecDepth 20000 in
theorem wd_X6_init_11 : Cond.fieldLink RX6 21 "PermanentDesk$TakingApart" "endings" "LPermanentDesk$Endings;" ∈ wsX6_init := List.mem_of_getElem? (i := 11) (by decide +kernel)
set_option maxRecDepth 20000 in
theorem wd_X6_init_12 : Cond.arrayClass .int ∈ wsX6_init := List.mem_of_getElem? (i := 12) (by decide +kernel)
set_option maxRecDepth 20000 in
theorem wd_X6_init_13 : Cond.fieldLink RX6 25 "PermanentDesk$TakingApart" "diagonals" "[I" ∈ wsX6_init := List.mem_of_getElem? (i := 13) (by decide +kernel)
set_option maxRecDepth 20000 in
theorem wd_X6_init_14 : Cond.fieldLink RX6 29 "PermanentDesk$TakingApart" "weights" "[I" ∈ wsX6_init := List.mem_of_getElem? (i := 14) (by decide +kernel)
set_option maxRecDepth 20000 in
theorem wd_X6_init_15 : Cond.fieldLink RX6 32 "PermanentDesk$TakingApart" "count" "I" ∈ wsX6_init := List.mem_of_getElem? (i := 15) (by decide +kernel)
set_option maxHeartbeats 4000000 in
set_option maxRecDepth 100000 in
theorem c_X6_init (l : Launch) (G : GT) (q_t : Nat) (sz : Nat) : Met l yX6_init wsX6_init ({ frames := 2, cells := 6, slots := 278, locals := 40 } : Room) (va_Pc [.ref q_t] (pcA G [(q_t, .inr (5, [.null, .null, .null, .null, .int 0]))] sz)) (va_Qv (fun (_ : Nat → Nat) => True) (fun u t => atW G (va_A [(q_t, .inr (5, [.null, .null, .null, .null, .int 0]))] sz) [(q_t, .inr (5, [.ref (u 1), .ref (u 3), .ref (u 5), .ref (u 6), .int 0])), ((u 1), .inr (3, [.ref (u 2), .int 3])), ((u 2), .inl (G.2 0, 49, .inl (fun _ => 0))), ((u 3), .inr (1, [.ref (u 4)])), ((u 4), .inl (G.2 0, 128, .inl (fun _ => 0))), ((u 5), .inl (G.2 0, 49, .inl (fun _ => 0))), ((u 6), .inl (G.2 0, 49, .inl (fun _ => 0)))] t) (va_A [(q_t, .inr (5, [.null, .null, .null, .null, .int 0]))] sz)) 6 278 (va_A [(q_t, .inr (5, [.null, .null, .null, .null, .int 0]))] sz) := by
  refine Met.ofW (cc := cX6_init) (maxL := 1) (ret := none) (by decide) rfl ?_
  intro p e s m args below meth c s₁ B hml hv
  obtain ⟨rfl, ⟨hsz, hP, hK, hD0⟩, hAO⟩ := hv
  subst hsz
  have hD := hD0.self (sz := s.heap.size)
  generalize hAe : va_A [(q_t, .inr (5, [.null, .null, .null, .null, .int 0]))] s.heap.size = A at hD ⊢
  have hA : ∀ q : Nat, s.heap.size ≤ q → A q := fun q h => by rw [← hAe]; exact Or.inr h
  have hx := B.exec
  have hb := B.bytes
  have hown : s.vm.findClass RX6 = some m.cls := findClass_of_methodNamed B.named
  have hts := atoms_spec (ws := wsX6_init) B.pre
  have hin : meth.name = "<init>" := (name_of_methodNamed B.named B.method).1
  have hS : va_S A s.heap s.heap [] := va_S.rf
  have hl := lv_entry ([.ref q_t]) (n := 1) (Nat.le_of_ble_eq_true rfl)
  rw [lg_entry_eq]
  generalize (lg_sl ([.ref q_t]) ++ List.replicate (1 - (lg_sl ([.ref q_t])).length) Slot.unset).toArray = ls at hl ⊢
  have hl : lv_has ls 1 [(0, .ref q_t)] := hl
  refine lv_aload_n hx hb dX6_init_0 rfl (lv_at hl 0 rfl) ?_
  refine W.objInit hx hb hown (hts _ wd_X6_init_1) (hts _ wd_X6_init_2) (hts _ wd_X6_init_3) rfl (by rw [hml]; exact hl.1) rfl dX6_init_1 (Nat.le_of_ble_eq_true rfl) (Nat.le_of_ble_eq_true rfl) ?_
  refine W.eq (g2 := F0 m 4 ls []) rfl ?_
  refine lv_aload_n hx hb dX6_init_4 rfl (lv_at hl 0 rfl) ?_
  refine va_new (D := G.1) (ci := 3) (fs := [.null, .int 0]) (C := RX4) (T := TX4) (N := 2) hx hb hts wi_X6_init_X4 tyX4 tyX4_ok hown (hts _ wd_X6_init_4) (hts _ wd_X6_init_5) (hts _ wd_X6_init_6) hK hP hD hS hA rfl (fun j hj => by rcases (show j = 0 ∨ j = 1 by omega) with rfl | rfl <;> rfl) (Nat.le_of_ble_eq_true rfl) (Nat.le_of_ble_eq_true rfl) dX6_init_5 (fun q1 H hP hD hS => ?_)
  refine W.widen (k := 1) (n := 2) (Nat.le_of_ble_eq_true rfl) (Nat.le_of_ble_eq_true rfl) ?_
  have hP : va_P G.1 vwCl [(q_t, .inr (5, [.null, .null, .null, .null, .int 0])), (q1, .inr (3, [.null, .int 0]))] H := hP
  have hD : va_D A [(q_t, .inr (5, [.null, .null, .null, .null, .int 0])), (q1, .inr (3, [.null, .int 0]))] := hD
  refine lv_dup hx hb dX6_init_8 rfl ?_
  refine ck_I (rest := [.ref q1, .ref q_t]) ⟨hx, hb, hml, hown, hts⟩ hK hAO hP hD hS hA [1] [0] (c_X4_init l G q1 _) (cwI 0 hts gX6_init_X4_init rfl rfl rfl (hts _ wd_X6_init_6) (hts _ wd_X6_init_16) (hts _ wd_X6_init_17) rfl (by decide +kernel) ⟨Nat.le_of_ble_eq_true rfl, Nat.le_of_ble_eq_true rfl⟩) rfl rfl rfl rfl (by decide) hl.1 rfl (Nat.le_of_ble_eq_true rfl) dX6_init_9 ⟨Nat.le_of_ble_eq_true rfl, Nat.le_of_ble_eq_true rfl⟩ (fun u2 H locs hP hD hS => ?_)
  refine W.widen (k := 2) (n := 51) (Nat.le_of_ble_eq_true rfl) (Nat.le_of_ble_eq_true rfl) ?_
  have hP : va_P G.1 vwCl [(q_t, .inr (5, [.null, .null, .null, .null, .int 0])), (q1, .inr (3, [.ref (u2 1), .int 3])), ((u2 1), .inl (G.2 0, 49, .inl (fun _ => 0)))] H := hP
  have hD : va_D A [(q_t, .inr (5, [.null, .null, .null, .null, .int 0])), (q1, .inr (3, [.ref (u2 1), .int 3])), ((u2 1), .inl (G.2 0, 49, .inl (fun _ => 0)))] := hD
  refine va_putF (D := G.1) (ci := 5) (v := .ref q1) (ty := .object "PermanentDesk$Matrix") (C := RX6) (T := TX6) (N := 5) hx hb hts wi_X6_init_X6 tyX6 tyX6_ok nmX6 hown hK hP hD hS 0 rfl rfl 0 (by decide) (hts _ wd_X6_init_7) (fun _ h9 => h9) rfl hin rfl (by decide +kernel) rfl rfl (Nat.le_of_ble_eq_true rfl) dX6_init_12 (fun H locs hP hD hS => ?_)
  have hP : va_P G.1 vwCl [(q_t, .inr (5, [.ref q1, .null, .null, .null, .int 0])), (q1, .inr (3, [.ref (u2 1), .int 3])), ((u2 1), .inl (G.2 0, 49, .inl (fun _ => 0)))] H := hP
  have hD : va_D A [(q_t, .inr (5, [.ref q1, .null, .null, .null, .int 0])), (q1, .inr (3, [.ref (u2 1), .int 3])), ((u2 1), .inl (G.2 0, 49, .inl (fun _ => 0)))] := hD
  refine lv_aload_n hx hb dX6_init_15 rfl (lv_at hl 0 rfl) ?_
  refine va_new (D := G.1) (ci := 1) (fs := [.null]) (C := RX2) (T := TX2) (N := 1) hx hb hts wi_X6_init_X2 tyX2 tyX2_ok hown (hts _ wd_X6_init_8) (hts _ wd_X6_init_9) (hts _ wd_X6_init_10) hK hP hD hS hA rfl (fun j hj => by rcases (show j = 0 by omega) with rfl <;> rfl) (Nat.le_of_ble_eq_true rfl) (Nat.le_of_ble_eq_true rfl) dX6_init_16 (fun q3 H hP hD hS => ?_)
  refine W.widen (k := 3) (n := 52) (Nat.le_of_ble_eq_true rfl) (Nat.le_of_ble_eq_true rfl) ?_
  have hP : va_P G.1 vwCl [(q_t, .inr (5, [.ref q1, .null, .null, .null, .int 0])), (q1, .inr (3, [.ref (u2 1), .int 3])), ((u2 1), .inl (G.2 0, 49, .inl (fun _ => 0))), (q3, .inr (1, [.null]))] H := hP
  have hD : va_D A [(q_t, .inr (5, [.ref q1, .null, .null, .null, .int 0])), (q1, .inr (3, [.ref (u2 1), .int 3])), ((u2 1), .inl (G.2 0, 49, .inl (fun _ => 0))), (q3, .inr (1, [.null]))] := hD
  refine lv_dup hx hb dX6_init_19 rfl ?_
  refine ck_I (rest := [.ref q3, .ref q_t]) ⟨hx, hb, hml, hown, hts⟩ hK hAO hP hD hS hA [3] [0, 1, 2] (c_X2_init l G q3 _) (cwI 0 hts gX6_init_X2_init rfl rfl rfl (hts _ wd_X6_init_10) (hts _ wd_X6_init_22) (hts _ wd_X6_init_23) rfl (by decide +kernel) ⟨Nat.le_of_ble_eq_true rfl, Nat.le_of_ble_eq_true rfl⟩) rfl rfl rfl rfl (by decide) hl.1 rfl (Nat.le_of_ble_eq_true rfl) dX6_init_20 ⟨Nat.le_of_ble_eq_true rfl, Nat.le_of_ble_eq_true rfl⟩ (fun u4 H locs hP hD hS => ?_)
  refine W.widen (k := 4) (n := 180) (Nat.le_of_ble_eq_true rfl) (Nat.le_of_ble_eq_true rfl) ?_
  have hP : va_P G.1 vwCl [(q_t, .inr (5, [.ref q1, .null, .null, .null, .int 0])), (q1, .inr (3, [.ref (u2 1), .int 3])), ((u2 1), .inl (G.2 0, 49, .inl (fun _ => 0))), (q3, .inr (1, [.ref (u4 1)])), ((u4 1), .inl (G.2 0, 128, .inl (fun _ => 0)))] H := hP
  have hD : va_D A [(q_t, .inr (5, [.ref q1, .null, .null, .null, .int 0])), (q1, .inr (3, [.ref (u2 1), .int 3])), ((u2 1), .inl (G.2 0, 49, .inl (fun _ => 0))), (q3, .inr (1, [.ref (u4 1)])), ((u4 1), .inl (G.2 0, 128, .inl (fun _ => 0)))] := hD
  refine va_putF (D := G.1) (ci := 5) (v := .ref q3) (ty := .object "PermanentDesk$Endings") (C := RX6) (T := TX6) (N := 5) hx hb hts wi_X6_init_X6 tyX6 tyX6_ok nmX6 hown hK hP hD hS 0 rfl rfl 1 (by decide) (hts _ wd_X6_init_11) (fun _ h9 => h9) rfl hin rfl (by decide +kernel) rfl rfl (Nat.le_of_ble_eq_true rfl) dX6_init_23 (fun H locs hP hD hS => ?_)
  have hP : va_P G.1 vwCl [(q_t, .inr (5, [.ref q1, .ref q3, .null, .null, .int 0])), (q1, .inr (3, [.ref (u2 1), .int 3])), ((u2 1), .inl (G.2 0, 49, .inl (fun _ => 0))), (q3, .inr (1, [.ref (u4 1)])), ((u4 1), .inl (G.2 0, 128, .inl (fun _ => 0)))] H := hP
  have hD : va_D A [(q_t, .inr (5, [.ref q1, .ref q3, .null, .null, .int 0])), (q1, .inr (3, [.ref (u2 1), .int 3])), ((u2 1), .inl (G.2 0, 49, .inl (fun _ => 0))), (q3, .inr (1, [.ref (u4 1)])), ((u4 1), .inl (G.2 0, 128, .inl (fun _ => 0)))] := hD
  refine lv_aload_n hx hb dX6_init_26 rfl (lv_at hl 0 rfl) ?_
  refine lv_bipush (v := 49) hx hb dX6_init_27 (by decide) ?_
  refine va_newa (D := G.1) (atype := .int) (ty := .int) (N' := 49) (a0 := (49, .inl (fun _ => 0))) hx hb (hts _ wd_X6_init_12) rfl hK hP hD hS hA (fun _ => rfl) (by decide) (by decide) (Nat.le_of_ble_eq_true rfl) (Nat.le_of_ble_eq_true rfl) (Nat.le_of_ble_eq_true rfl) dX6_init_29 (fun q5 cA H hK2 hP hD hS => ?_)
  obtain rfl : cA = G.2 0 := gK_uni_int hK2
  refine W.widen (k := 5) (n := 229) (Nat.le_of_ble_eq_true rfl) (Nat.le_of_ble_eq_true rfl) ?_
  have hP : va_P G.1 vwCl [(q_t, .inr (5, [.ref q1, .ref q3, .null, .null, .int 0])), (q1, .inr (3, [.ref (u2 1), .int 3])), ((u2 1), .inl (G.2 0, 49, .inl (fun _ => 0))), (q3, .inr (1, [.ref (u4 1)])), ((u4 1), .inl (G.2 0, 128, .inl (fun _ => 0))), (q5, .inl (G.2 0, 49, .inl (fun _ => 0)))] H := hP
  have hD : va_D A [(q_t, .inr (5, [.ref q1, .ref q3, .null, .null, .int 0])), (q1, .inr (3, [.ref (u2 1), .int 3])), ((u2 1), .inl (G.2 0, 49, .inl (fun _ => 0))), (q3, .inr (1, [.ref (u4 1)])), ((u4 1), .inl (G.2 0, 128, .inl (fun _ => 0))), (q5, .inl (G.2 0, 49, .inl (fun _ => 0)))] := hD
  refine va_putF (D := G.1) (ci := 5) (v := .ref q5) (ty := .array .int) (C := RX6) (T := TX6) (N := 5) hx hb hts wi_X6_init_X6 tyX6 tyX6_ok nmX6 hown hK hP hD hS 0 rfl rfl 2 (by decide) (hts _ wd_X6_init_13) (fun _ h9 => h9) rfl hin rfl (by decide +kernel) rfl rfl (Nat.le_of_ble_eq_true rfl) dX6_init_31 (fun H locs hP hD hS => ?_)
  have hP : va_P G.1 vwCl [(q_t, .inr (5, [.ref q1, .ref q3, .ref q5, .null, .int 0])), (q1, .inr (3, [.ref (u2 1), .int 3])), ((u2 1), .inl (G.2 0, 49, .inl (fun _ => 0))), (q3, .inr (1, [.ref (u4 1)])), ((u4 1), .inl (G.2 0, 128, .inl (fun _ => 0))), (q5, .inl (G.2 0, 49, .inl (fun _ => 0)))] H := hP
  have hD : va_D A [(q_t, .inr (5, [.ref q1, .ref q3, .ref q5, .null, .int 0])), (q1, .inr (3, [.ref (u2 1), .int 3])), ((u2 1), .inl (G.2 0, 49, .inl (fun _ => 0))), (q3, .inr (1, [.ref (u4 1)])), ((u4 1), .inl (G.2 0, 128, .inl (fun _ => 0))), (q5, .inl (G.2 0, 49, .inl (fun _ => 0)))] := hD
  refine lv_aload_n hx hb dX6_init_34 rfl (lv_at hl 0 rfl) ?_
  refine lv_bipush (v := 49) hx hb dX6_init_35 (by decide) ?_
  refine va_newa (D := G.1) (atype := .int) (ty := .int) (N' := 49) (a0 := (49, .inl (fun _ => 0))) hx hb (hts _ wd_X6_init_12) rfl hK hP hD hS hA (fun _ => rfl) (by decide) (by decide) (Nat.le_of_ble_eq_true rfl) (Nat.le_of_ble_eq_true rfl) (Nat.le_of_ble_eq_true rfl) dX6_init_37 (fun q6 cA H hK2 hP hD hS => ?_)
  obtain rfl : cA = G.2 0 := gK_uni_int hK2
  refine W.widen (k := 6) (n := 278) (Nat.le_of_ble_eq_true rfl) (Nat.le_of_ble_eq_true rfl) ?_
  have hP : va_P G.1 vwCl [(q_t, .inr (5, [.ref q1, .ref q3, .ref q5, .null, .int 0])), (q1, .inr (3, [.ref (u2 1), .int 3])), ((u2 1), .inl (G.2 0, 49, .inl (fun _ => 0))), (q3, .inr (1, [.ref (u4 1)])), ((u4 1), .inl (G.2 0, 128, .inl (fun _ => 0))), (q5, .inl (G.2 0, 49, .inl (fun _ => 0))), (q6, .inl (G.2 0, 49, .inl (fun _ => 0)))] H := hP
  have hD : va_D A [(q_t, .inr (5, [.ref q1, .ref q3, .ref q5, .null, .int 0])), (q1, .inr (3, [.ref (u2 1), .int 3])), ((u2 1), .inl (G.2 0, 49, .inl (fun _ => 0))), (q3, .inr (1, [.ref (u4 1)])), ((u4 1), .inl (G.2 0, 128, .inl (fun _ => 0))), (q5, .inl (G.2 0, 49, .inl (fun _ => 0))), (q6, .inl (G.2 0, 49, .inl (fun _ => 0)))] := hD
  refine va_putF (D := G.1) (ci := 5) (v := .ref q6) (ty := .array .int) (C := RX6) (T := TX6) (N := 5) hx hb hts wi_X6_init_X6 tyX6 tyX6_ok nmX6 hown hK hP hD hS 0 rfl rfl 3 (by decide) (hts _ wd_X6_init_14) (fun _ h9 => h9) rfl hin rfl (by decide +kernel) rfl rfl (Nat.le_of_ble_eq_true rfl) dX6_init_39 (fun H locs hP hD hS => ?_)
  have hP : va_P G.1 vwCl [(q_t, .inr (5, [.ref q1, .ref q3, .ref q5, .ref q6, .int 0])), (q1, .inr (3, [.ref (u2 1), .int 3])), ((u2 1), .inl (G.2 0, 49, .inl (fun _ => 0))), (q3, .inr (1, [.ref (u4 1)])), ((u4 1), .inl (G.2 0, 128, .inl (fun _ => 0))), (q5, .inl (G.2 0, 49, .inl (fun _ => 0))), (q6, .inl (G.2 0, 49, .inl (fun _ => 0)))] H := hP
  have hD : va_D A [(q_t, .inr (5, [.ref q1, .ref q3, .ref q5, .ref q6, .int 0])), (q1, .inr (3, [.ref (u2 1), .int 3])), ((u2 1), .inl (G.2 0, 49, .inl (fun _ => 0))), (q3, .inr (1, [.ref (u4 1)])), ((u4 1), .inl (G.2 0, 128, .inl (fun _ => 0))), (q5, .inl (G.2 0, 49, .inl (fun _ => 0))), (q6, .inl (G.2 0, 49, .inl (fun _ => 0)))] := hD
  refine lv_aload_n hx hb dX6_init_42 rfl (lv_at hl 0 rfl) ?_
  refine lv_iconst (v := 0) hx hb dX6_init_43 (by decide) ?_
  refine st_put (D := G.1) (ci := 5) (v := .int 0) (ty := .int) (C := RX6) (T := TX6) (N := 5) (wn := [(q_t, .inr (5, [.ref q1, .ref q3, .ref q5, .ref q6, .int 0])), (q1, .inr (3, [.ref (u2 1), .int 3])), ((u2 1), .inl (G.2 0, 49, .inl (fun _ => 0))), (q3, .inr (1, [.ref (u4 1)])), ((u4 1), .inl (G.2 0, 128, .inl (fun _ => 0))), (q5, .inl (G.2 0, 49, .inl (fun _ => 0))), (q6, .inl (G.2 0, 49, .inl (fun _ => 0)))]) hx hb hts wi_X6_init_X6 tyX6 tyX6_ok nmX6 hown hK hP hD hS 0 rfl rfl 4 (by decide) (hts _ wd_X6_init_15) (fun _ h9 => h9) rfl (by decide +kernel) rfl rfl (Nat.le_of_ble_eq_true rfl) dX6_init_44 rfl (fun H locs hP hD hS => ?_)
  have hP9 := hP.sub (ws' := [(q_t, .inr (5, [.ref q1, .ref q3, .ref q5, .ref q6, .int 0])), (q1, .inr (3, [.ref (u2 1), .int 3])), ((u2 1), .inl (G.2 0, 49, .inl (fun _ => 0))), (q3, .inr (1, [.ref (u4 1)])), ((u4 1), .inl (G.2 0, 128, .inl (fun _ => 0))), (q5, .inl (G.2 0, 49, .inl (fun _ => 0))), (q6, .inl (G.2 0, 49, .inl (fun _ => 0)))]) [0, 1, 2, 3, 4, 5, 6] rfl
  have hD9 := hD.sub (ws' := [(q_t, .inr (5, [.ref q1, .ref q3, .ref q5, .ref q6, .int 0])), (q1, .inr (3, [.ref (u2 1), .int 3])), ((u2 1), .inl (G.2 0, 49, .inl (fun _ => 0))), (q3, .inr (1, [.ref (u4 1)])), ((u4 1), .inl (G.2 0, 128, .inl (fun _ => 0))), (q5, .inl (G.2 0, 49, .inl (fun _ => 0))), (q6, .inl (G.2 0, 49, .inl (fun _ => 0)))]) [0, 1, 2, 3, 4, 5, 6] (by decide) rfl
  exact W.vret hx hb B.returns (fun t ht hW => ⟨⟨fun k => List.getD [q_t, q1, (u2 1), q3, (u4 1), q5, q6] k 0, rfl, trivial, by rw [ht]; exact hP9, hD9⟩, hS.F ht⟩) hS.2.2 dX6_init_47 B.notSynchronized
set_option maxRecDepth 20000 in
theorem wd_X7_init_1 : Cond.methodLink RX7 3 objectInit ∈ wsX7_init := List.mem_of_getElem? (i := 1) (by decide +kernel)
set_option maxRecDepth 20000 in
theorem wd_X7_init_2 : Cond.instanceMethod objectInit ∈ wsX7_init := List.mem_of_getElem? (i := 2) (by decide +kernel)
set_option maxRecDepth 20000 in
theorem wd_X7_init_3 : Cond.code objectInit ⟨#[0xb1]⟩ 1 none ∈ wsX7_init := List.mem_of_getElem? (i := 3) (by decide +kernel)
set_option maxRecDepth 20000 in
theorem wd_X7_init_4 : Cond.arrayClass .char ∈ wsX7_init := List.mem_of_getElem? (i := 4) (by decide +kernel)
set_option maxRecDepth 20000 in
theorem wd_X7_init_5 : Cond.fieldLink RX7 9 "PermanentDesk$Text" "characters" "[C" ∈ wsX7_init := List.mem_of_getElem? (i := 5) (by decide +kernel)
set_option maxRecDepth 20000 in
theorem wi_X7_init_X7 : ∀ w ∈ u_ws RX7 TX7 2, w ∈ wsX7_init := by decide +kernel
set_option maxRecDepth 20000 in
theorem wd_X7_init_6 : Cond.fieldLink RX7 15 "PermanentDesk$Text" "length" "I" ∈ wsX7_init := List.mem_of_getElem? (i := 6) (by decide +kernel)
set_option maxHeartbeats 4000000 in
set_option maxRecDepth 100000 in
theorem c_X7_init (l : Launch) (G : GT) (q_t : Nat) (sz : Nat) : Met l yX7_init wsX7_init ({ frames := 1, cells := 1, slots := 100, locals := 20 } : Room) (va_Pc [.ref q_t] (pcA G [(q_t, .inr (6, [.null, .int 0]))] sz)) (va_Qv (fun (_ : Nat → Nat) => True) (fun u t => atW G (va_A [(q_t, .inr (6, [.null, .int 0]))] sz) [(q_t, .inr (6, [.ref (u 1), .int 0])), ((u 1), .inl (G.2 3, 100, .inl (fun _ => 0)))] t) (va_A [(q_t, .inr (6, [.null, .int 0]))] sz)) 1 100 (va_A [(q_t, .inr (6, [.null, .int 0]))] sz) := by
  refine Met.ofW (cc := cX7_init) (maxL := 1) (ret := none) (by decide) rfl ?_
  intro p e s m args below meth c s₁ B hml hv
  obtain ⟨rfl, ⟨hsz, hP, hK, hD0⟩, hAO⟩ := hv
  subst hsz
  have hD := hD0.self (sz := s.heap.size)
  generalize hAe : va_A [(q_t, .inr (6, [.null, .int 0]))] s.heap.size = A at hD ⊢
  have hA : ∀ q : Nat, s.heap.size ≤ q → A q := fun q h => by rw [← hAe]; exact Or.inr h
  have hx := B.exec
  have hb := B.bytes
  have hown : s.vm.findClass RX7 = some m.cls := findClass_of_methodNamed B.named
  have hts := atoms_spec (ws := wsX7_init) B.pre
  have hin : meth.name = "<init>" := (name_of_methodNamed B.named B.method).1
  have hS : va_S A s.heap s.heap [] := va_S.rf
  have hl := lv_entry ([.ref q_t]) (n := 1) (Nat.le_of_ble_eq_true rfl)
  rw [lg_entry_eq]
  generalize (lg_sl ([.ref q_t]) ++ List.replicate (1 - (lg_sl ([.ref q_t])).length) Slot.unset).toArray = ls at hl ⊢
  have hl : lv_has ls 1 [(0, .ref q_t)] := hl
  refine lv_aload_n hx hb dX7_init_0 rfl (lv_at hl 0 rfl) ?_
  refine W.objInit hx hb hown (hts _ wd_X7_init_1) (hts _ wd_X7_init_2) (hts _ wd_X7_init_3) rfl (by rw [hml]; exact hl.1) rfl dX7_init_1 (Nat.le_of_ble_eq_true rfl) (Nat.le_of_ble_eq_true rfl) ?_
  refine W.eq (g2 := F0 m 4 ls []) rfl ?_
  refine lv_aload_n hx hb dX7_init_4 rfl (lv_at hl 0 rfl) ?_
  refine lv_bipush (v := 100) hx hb dX7_init_5 (by decide) ?_
  refine va_newa (D := G.1) (atype := .char) (ty := .char) (N' := 100) (a0 := (100, .inl (fun _ => 0))) hx hb (hts _ wd_X7_init_4) rfl hK hP hD hS hA (fun _ => rfl) (by decide) (by decide) (Nat.le_of_ble_eq_true rfl) (Nat.le_of_ble_eq_true rfl) (Nat.le_of_ble_eq_true rfl) dX7_init_7 (fun q1 cA H hK2 hP hD hS => ?_)
  obtain rfl : cA = G.2 3 := gK_uni_char hK2
  refine W.widen (k := 1) (n := 100) (Nat.le_of_ble_eq_true rfl) (Nat.le_of_ble_eq_true rfl) ?_
  have hP : va_P G.1 vwCl [(q_t, .inr (6, [.null, .int 0])), (q1, .inl (G.2 3, 100, .inl (fun _ => 0)))] H := hP
  have hD : va_D A [(q_t, .inr (6, [.null, .int 0])), (q1, .inl (G.2 3, 100, .inl (fun _ => 0)))] := hD
  refine va_putF (D := G.1) (ci := 6) (v := .ref q1) (ty := .array .char) (C := RX7) (T := TX7) (N := 2) hx hb hts wi_X7_init_X7 tyX7 tyX7_ok nmX7 hown hK hP hD hS 0 rfl rfl 0 (by decide) (hts _ wd_X7_init_5) (fun _ h9 => h9) rfl hin rfl (by decide +kernel) rfl rfl (Nat.le_of_ble_eq_true rfl) dX7_init_9 (fun H locs hP hD hS => ?_)
  have hP : va_P G.1 vwCl [(q_t, .inr (6, [.ref q1, .int 0])), (q1, .inl (G.2 3, 100, .inl (fun _ => 0)))] H := hP
  have hD : va_D A [(q_t, .inr (6, [.ref q1, .int 0])), (q1, .inl (G.2 3, 100, .inl (fun _ => 0)))] := hD
  refine lv_aload_n hx hb dX7_init_12 rfl (lv_at hl 0 rfl) ?_
  refine lv_iconst (v := 0) hx hb dX7_init_13 (by decide) ?_
  refine st_put (D := G.1) (ci := 6) (v := .int 0) (ty := .int) (C := RX7) (T := TX7) (N := 2) (wn := [(q_t, .inr (6, [.ref q1, .int 0])), (q1, .inl (G.2 3, 100, .inl (fun _ => 0)))]) hx hb hts wi_X7_init_X7 tyX7 tyX7_ok nmX7 hown hK hP hD hS 0 rfl rfl 1 (by decide) (hts _ wd_X7_init_6) (fun _ h9 => h9) rfl (by decide +kernel) rfl rfl (Nat.le_of_ble_eq_true rfl) dX7_init_14 rfl (fun H locs hP hD hS => ?_)
  have hP9 := hP.sub (ws' := [(q_t, .inr (6, [.ref q1, .int 0])), (q1, .inl (G.2 3, 100, .inl (fun _ => 0)))]) [0, 1] rfl
  have hD9 := hD.sub (ws' := [(q_t, .inr (6, [.ref q1, .int 0])), (q1, .inl (G.2 3, 100, .inl (fun _ => 0)))]) [0, 1] (by decide) rfl
  exact W.vret hx hb B.returns (fun t ht hW => ⟨⟨fun k => List.getD [q_t, q1] k 0, rfl, trivial, by rw [ht]; exact hP9, hD9⟩, hS.F ht⟩) hS.2.2 dX7_init_17 B.notSynchronized
set_option maxRecDepth 20000 in
theorem wd_X8_init_1 : Cond.methodLink RX8 3 objectInit ∈ wsX8_init := List.mem_of_getElem? (i := 1) (by decide +kernel)
set_option maxRecDepth 20000 in
theorem wd_X8_init_2 : Cond.instanceMethod objectInit ∈ wsX8_init := List.mem_of_getElem? (i := 2) (by decide +kernel)
set_option maxRecDepth 20000 in
theorem wd_X8_init_3 : Cond.code objectInit ⟨#[0xb1]⟩ 1 none ∈ wsX8_init := List.mem_of_getElem? (i := 3) (by decide +kernel)
set_option maxHeartbeats 4000000 in
set_option maxRecDepth 100000 in
theorem c_X8_init (l : Launch) (G : GT) (q_t : Nat) (sz : Nat) : Met l yX8_init wsX8_init ({ frames := 1, cells := 0, slots := 0, locals := 20 } : Room) (va_Pc [.ref q_t] (pcA G [(q_t, .inr (7, [.int 0, .int 0, .int 0, .int 0, .int 0]))] sz)) (va_Qv (fun (_ : Nat → Nat) => True) (fun u t => atW G (va_A [(q_t, .inr (7, [.int 0, .int 0, .int 0, .int 0, .int 0]))] sz) [(q_t, .inr (7, [.int 0, .int 0, .int 0, .int 0, .int 0]))] t) (va_A [(q_t, .inr (7, [.int 0, .int 0, .int 0, .int 0, .int 0]))] sz)) 0 0 (va_A [(q_t, .inr (7, [.int 0, .int 0, .int 0, .int 0, .int 0]))] sz) := by
  refine Met.ofW (cc := cX8_init) (maxL := 1) (ret := none) (by decide) rfl ?_
  intro p e s m args below meth c s₁ B hml hv
  obtain ⟨rfl, ⟨hsz, hP, hK, hD0⟩, hAO⟩ := hv
  subst hsz
  have hD := hD0.self (sz := s.heap.size)
  generalize hAe : va_A [(q_t, .inr (7, [.int 0, .int 0, .int 0, .int 0, .int 0]))] s.heap.size = A at hD ⊢
  have hA : ∀ q : Nat, s.heap.size ≤ q → A q := fun q h => by rw [← hAe]; exact Or.inr h
  have hx := B.exec
  have hb := B.bytes
  have hown : s.vm.findClass RX8 = some m.cls := findClass_of_methodNamed B.named
  have hts := atoms_spec (ws := wsX8_init) B.pre
  have hin : meth.name = "<init>" := (name_of_methodNamed B.named B.method).1
  have hS : va_S A s.heap s.heap [] := va_S.rf
  have hl := lv_entry ([.ref q_t]) (n := 1) (Nat.le_of_ble_eq_true rfl)
  rw [lg_entry_eq]
  generalize (lg_sl ([.ref q_t]) ++ List.replicate (1 - (lg_sl ([.ref q_t])).length) Slot.unset).toArray = ls at hl ⊢
  have hl : lv_has ls 1 [(0, .ref q_t)] := hl
  refine lv_aload_n hx hb dX8_init_0 rfl (lv_at hl 0 rfl) ?_
  refine W.objInit hx hb hown (hts _ wd_X8_init_1) (hts _ wd_X8_init_2) (hts _ wd_X8_init_3) rfl (by rw [hml]; exact hl.1) rfl dX8_init_1 (Nat.le_of_ble_eq_true rfl) (Nat.le_of_ble_eq_true rfl) ?_
  refine W.eq (g2 := F0 m 4 ls []) rfl ?_
  refine lv_aload_n hx hb dX8_init_4 rfl (lv_at hl 0 rfl) ?_
  refine ck_Vv (rest := []) (wn := [(q_t, .inr (7, [.int 0, .int 0, .int 0, .int 0, .int 0]))]) ⟨hx, hb, hml, hown, hts⟩ hK hP hD hS hA [0] [] [0] (c_X8_start l G q_t _ 0 0 0 0 0 0 0 0 0 0 rfl) (cwV 0 hts gX8_init_X8_start rfl rfl rfl (by decide +kernel) ⟨Nat.le_of_ble_eq_true rfl, Nat.le_of_ble_eq_true rfl⟩) rfl rfl rfl rfl rfl rfl (by decide) rfl rfl rfl hl.1 rfl (Nat.le_of_ble_eq_true rfl) dX8_init_5 ⟨Nat.zero_le _, Nat.zero_le _⟩ (fun H locs hP hD hS => ?_)
  have hP9 := hP.sub (ws' := [(q_t, .inr (7, [.int 0, .int 0, .int 0, .int 0, .int 0]))]) [0] rfl
  have hD9 := hD.sub (ws' := [(q_t, .inr (7, [.int 0, .int 0, .int 0, .int 0, .int 0]))]) [0] (by decide) rfl
  exact W.vret hx hb B.returns (fun t ht hW => ⟨⟨fun k => List.getD [q_t] k 0, rfl, trivial, by rw [ht]; exact hP9, hD9⟩, hS.F ht⟩) hS.2.2 dX8_init_8 B.notSynchronized
set_option maxRecDepth 20000 in
theorem wd_X9_init_1 : Cond.methodLink RX9 1 objectInit ∈ wsX9_init := List.mem_of_getElem? (i := 1) (by decide +kernel)
set_option maxRecDepth 20000 in
theorem wd_X9_init_2 : Cond.instanceMethod objectInit ∈ wsX9_init := List.mem_of_getElem? (i := 2) (by decide +kernel)
set_option maxRecDepth 20000 in
theorem wd_X9_init_3 : Cond.code objectInit ⟨#[0xb1]⟩ 1 none ∈ wsX9_init := List.mem_of_getElem? (i := 3) (by decide +kernel)
set_option maxRecDepth 20000 in
theorem wi_X9_init_X4 : ∀ w ∈ u_ws RX4 TX4 2, w ∈ wsX9_init := by decide +kernel
set_option maxRecDepth 20000 in
theorem wd_X9_init_4 : Cond.classLink RX9 7 RX4 ∈ wsX9_init := List.mem_of_getElem? (i := 4) (by decide +kernel)
set_option maxRecDepth 20000 in
theorem wd_X9_init_5 : Cond.instantiable RX4 2 ∈ wsX9_init := List.mem_of_getElem? (i := 5) (by decide +kernel)
set_option maxRecDepth 20000 in
theorem wd_X9_init_6 : Cond.initialized RX4 ∈ wsX9_init := List.mem_of_getElem? (i := 6) (by decide +kernel)
set_option maxRecDepth 20000 in
theorem wd_X9_init_40 : Cond.methodLink RX9 9 yX4_init ∈ wsX9_init := List.mem_of_getElem? (i := 40) (by decide +kernel)
set_option maxRecDepth 20000 in
theorem wd_X9_init_41 : Cond.instanceMethod yX4_init ∈ wsX9_init := List.mem_of_getElem? (i := 41) (by decide +kernel)
set_option maxRecDepth 20000 in
theorem wd_X9_init_7 : Cond.fieldLink RX9 10 "PermanentDesk" "matrix" "LPermanentDesk$Matrix;" ∈ wsX9_init := List.mem_of_getElem? (i := 7) (by decide +kernel)
set_option maxRecDepth 20000 in
theorem wi_X9_init_X9 : ∀ w ∈ u_ws RX9 TX9 12, w ∈ wsX9_init := by decide +kernel
set_option maxRecDepth 20000 in
theorem wd_X9_init_8 : Cond.fieldLink RX9 16 "PermanentDesk" "next" "LPermanentDesk$Matrix;" ∈ wsX9_init := List.mem_of_getElem? (i := 8) (by decide +kernel)
set_option maxRecDepth 20000 in
theorem wd_X9_init_9 : Cond.fieldLink RX9 19 "PermanentDesk" "marks" "LPermanentDesk$Matrix;" ∈ wsX9_init := List.mem_of_getElem? (i := 9) (by decide +kernel)
set_option maxRecDepth 20000 in
theorem wd_X9_init_10 : Cond.fieldLink RX9 22 "PermanentDesk" "kept" "LPermanentDesk$Matrix;" ∈ wsX9_init := List.mem_of_getElem? (i := 10) (by decide +kernel)
set_option maxRecDepth 20000 in
theorem wd_X9_init_11 : Cond.fieldLink RX9 25 "PermanentDesk" "hasKept" "Z" ∈ wsX9_init := List.mem_of_getElem? (i := 11) (by decide +kernel)
set_option maxRecDepth 20000 in
theorem wi_X9_init_X3 : ∀ w ∈ u_ws RX3 TX3 3, w ∈ wsX9_init := by decide +kernel
set_option maxRecDepth 20000 in
theorem wd_X9_init_12 : Cond.classLink RX9 29 RX3 ∈ wsX9_init := List.mem_of_getElem? (i := 12) (by decide +kernel)
set_option maxRecDepth 20000 in
theorem wd_X9_init_13 : Cond.instantiable RX3 3 ∈ wsX9_init := List.mem_of_getElem? (i := 13) (by decide +kernel)
set_option maxRecDepth 20000 in
theorem wd_X9_init_14 : Cond.initialized RX3 ∈ wsX9_init := List.mem_of_getElem? (i := 14) (by decide +kernel)
set_option maxRecDepth 20000 in
theorem wd_X9_init_47 : Cond.methodLink RX9 31 yX3_init ∈ wsX9_init := List.mem_of_getElem? (i := 47) (by decide +kernel)
set_option maxRecDepth 20000 in
theorem wd_X9_init_48 : Cond.instanceMethod yX3_init ∈ wsX9_init := List.mem_of_getElem? (i := 48) (by decide +kernel)
set_option maxRecDepth 20000 in
theorem wd_X9_init_15 : Cond.fieldLink RX9 32 "PermanentDesk" "history" "LPermanentDesk$History;" ∈ wsX9_init := List.mem_of_getElem? (i := 15) (by decide +kernel)
set_option maxRecDepth 20000 in
theorem wi_X9_init_X7 : ∀ w ∈ u_ws RX7 TX7 2, w ∈ wsX9_init := by decide +kernel
set_option maxRecDepth 20000 in
theorem wd_X9_init_16 : Cond.classLink RX9 36 RX7 ∈ wsX9_init := List.mem_of_getElem? (i := 16) (by decide +kernel)
set_option maxRecDepth 20000 in
theorem wd_X9_init_17 : Cond.instantiable RX7 2 ∈ wsX9_init := List.mem_of_getElem? (i := 17) (by decide +kernel)
set_option maxRecDepth 20000 in
theorem wd_X9_init_18 : Cond.initialized RX7 ∈ wsX9_init := List.mem_of_getElem? (i := 18) (by decide +kernel)
set_option maxRecDepth 20000 in
theorem wd_X9_init_56 : Cond.methodLink RX9 38 yX7_init ∈ wsX9_init := List.mem_of_getElem? (i := 56) (by decide +kernel)
set_option maxRecDepth 20000 in
theorem wd_X9_init_57 : Cond.instanceMethod yX7_init ∈ wsX9_init := List.mem_of_getElem? (i := 57) (by decide +kernel)
set_option maxRecDepth 20000 in
theorem wd_X9_init_19 : Cond.fieldLink RX9 39 "PermanentDesk" "text" "LPermanentDesk$Text;" ∈ wsX9_init := List.mem_of_getElem? (i := 19) (by decide +kernel)
set_option maxRecDepth 20000 in
theorem wi_X9_init_X8 : ∀ w ∈ u_ws RX8 TX8 5, w ∈ wsX9_init := by decide +kernel
set_option maxRecDepth 20000 in
theorem wd_X9_init_20 : Cond.classLink RX9 43 RX8 ∈ wsX9_init := List.mem_of_getElem? (i := 20) (by decide +kernel)
set_option maxRecDepth 20000 in
theorem wd_X9_init_21 : Cond.instantiable RX8 5 ∈ wsX9_init := List.mem_of_getElem? (i := 21) (by decide +kernel)
set_option maxRecDepth 20000 in
theorem wd_X9_init_22 : Cond.initialized RX8 ∈ wsX9_init := List.mem_of_getElem? (i := 22) (by decide +kernel)
set_option maxRecDepth 20000 in
theorem wd_X9_init_63 : Cond.methodLink RX9 45 yX8_init ∈ wsX9_init := List.mem_of_getElem? (i := 63) (by decide +kernel)
set_option maxRecDepth 20000 in
theorem wd_X9_init_64 : Cond.instanceMethod yX8_init ∈ wsX9_init := List.mem_of_getElem? (i := 64) (by decide +kernel)
set_option maxRecDepth 20000 in
theorem wd_X9_init_23 : Cond.fieldLink RX9 46 "PermanentDesk" "reader" "LPermanentDesk$TextReader;" ∈ wsX9_init := List.mem_of_getElem? (i := 23) (by decide +kernel)
set_option maxRecDepth 20000 in
theorem wi_X9_init_X0 : ∀ w ∈ u_ws RX0 TX0 1, w ∈ wsX9_init := by decide +kernel
set_option maxRecDepth 20000 in
theorem wd_X9_init_24 : Cond.classLink RX9 50 RX0 ∈ wsX9_init := List.mem_of_getElem? (i := 24) (by decide +kernel)
set_option maxRecDepth 20000 in
theorem wd_X9_init_25 : Cond.instantiable RX0 1 ∈ wsX9_init := List.mem_of_getElem? (i := 25) (by decide +kernel)
set_option maxRecDepth 20000 in
theorem wd_X9_init_26 : Cond.initialized RX0 ∈ wsX9_init := List.mem_of_getElem? (i := 26) (by decide +kernel)
set_option maxRecDepth 20000 in
theorem wd_X9_init_76 : Cond.methodLink RX9 52 yX0_init ∈ wsX9_init := List.mem_of_getElem? (i := 76) (by decide +kernel)
set_option maxRecDepth 20000 in
theorem wd_X9_init_77 : Cond.instanceMethod yX0_init ∈ wsX9_init := List.mem_of_getElem? (i := 77) (by decide +kernel)
set_option maxRecDepth 20000 in
theorem wd_X9_init_27 : Cond.fieldLink RX9 53 "PermanentDesk" "sums" "LPermanentDesk$ColumnSums;" ∈ wsX9_init := List.mem_of_getElem? (i := 27) (by decide +kernel)
set_option maxRecDepth 20000 in
theorem wi_X9_init_X2 : ∀ w ∈ u_ws RX2 TX2 1, w ∈ wsX9_init := by decide +kernel
set_option maxRecDepth 20000 in
theorem wd_X9_init_28 : Cond.classLink RX9 57 RX2 ∈ wsX9_init := List.mem_of_getElem? (i := 28) (by decide +kernel)
set_option maxRecDepth 20000 in
theorem wd_X9_init_29 : Cond.instantiable RX2 1 ∈ wsX9_init := List.mem_of_getElem? (i := 29) (by decide +kernel)
set_option maxRecDepth 20000 in
theorem wd_X9_init_30 : Cond.initialized RX2 ∈ wsX9_init := List.mem_of_getElem? (i := 30) (by decide +kernel)
set_option maxRecDepth 20000 in
theorem wd_X9_init_82 : Cond.methodLink RX9 59 yX2_init ∈ wsX9_init := List.mem_of_getElem? (i := 82) (by decide +kernel)
set_option maxRecDepth 20000 in
theorem wd_X9_init_83 : Cond.instanceMethod yX2_init ∈ wsX9_init := List.mem_of_getElem? (i := 83) (by decide +kernel)
set_option maxRecDepth 20000 in
theorem wd_X9_init_31 : Cond.fieldLink RX9 60 "PermanentDesk" "endings" "LPermanentDesk$Endings;" ∈ wsX9_init := List.mem_of_getElem? (i := 31) (by decide +kernel)
set_option maxRecDepth 20000 in
theorem wi_X9_init_X5 : ∀ w ∈ u_ws RX5 TX5 4, w ∈ wsX9_init := by decide +kernel
set_option maxRecDepth 20000 in
theorem wd_X9_init_32 : Cond.classLink RX9 64 RX5 ∈ wsX9_init := List.mem_of_getElem? (i := 32) (by decide +kernel)
set_option maxRecDepth 20000 in
theorem wd_X9_init_33 : Cond.instantiable RX5 4 ∈ wsX9_init := List.mem_of_getElem? (i := 33) (by decide +kernel)
set_option maxRecDepth 20000 in
theorem wd_X9_init_34 : Cond.initialized RX5 ∈ wsX9_init := List.mem_of_getElem? (i := 34) (by decide +kernel)
set_option maxRecDepth 20000 in
theorem wd_X9_init_87 : Cond.methodLink RX9 66 yX5_init ∈ wsX9_init := List.mem_of_getElem? (i := 87) (by decide +kernel)
set_option maxRecDepth 20000 in
theorem wd_X9_init_88 : Cond.instanceMethod yX5_init ∈ wsX9_init := List.mem_of_getElem? (i := 88) (by decide +kernel)
set_option maxRecDepth 20000 in
theorem wd_X9_init_35 : Cond.fieldLink RX9 67 "PermanentDesk" "scaling" "LPermanentDesk$Scaling;" ∈ wsX9_init := List.mem_of_getElem? (i := 35) (by decide +kernel)
set_option maxRecDepth 20000 in
theorem wi_X9_init_X6 : ∀ w ∈ u_ws RX6 TX6 5, w ∈ wsX9_init := by decide +kernel
set_option maxRecDepth 20000 in
theorem wd_X9_init_36 : Cond.classLink RX9 71 RX6 ∈ wsX9_init := List.mem_of_getElem? (i := 36) (by decide +kernel)
set_option maxRecDepth 20000 in
theorem wd_X9_init_37 : Cond.instantiable RX6 5 ∈ wsX9_init := List.mem_of_getElem? (i := 37) (by decide +kernel)
set_option maxRecDepth 20000 in
theorem wd_X9_init_38 : Cond.initialized RX6 ∈ wsX9_init := List.mem_of_getElem? (i := 38) (by decide +kernel)
set_option maxRecDepth 20000 in
theorem wd_X9_init_96 : Cond.methodLink RX9 73 yX6_init ∈ wsX9_init := List.mem_of_getElem? (i := 96) (by decide +kernel)
set_option maxRecDepth 20000 in
theorem wd_X9_init_97 : Cond.instanceMethod yX6_init ∈ wsX9_init := List.mem_of_getElem? (i := 97) (by decide +kernel)
set_option maxRecDepth 20000 in
theorem wd_X9_init_39 : Cond.fieldLink RX9 74 "PermanentDesk" "takingApart" "LPermanentDesk$TakingApart;" ∈ wsX9_init := List.mem_of_getElem? (i := 39) (by decide +kernel)
set_option maxHeartbeats 4000000 in
set_option maxRecDepth 100000 in
theorem c_X9_init (l : Launch) (G : GT) (q_t : Nat) (sz : Nat) : Met l yX9_init wsX9_init ({ frames := 3, cells := 36, slots := 1130, locals := 61 } : Room) (va_Pc [.ref q_t] (pcA G [(q_t, .inr (8, [.null, .null, .null, .null, .int 0, .null, .null, .null, .null, .null, .null, .null]))] sz)) (va_Qv (fun (_ : Nat → Nat) => True) (fun u t => atW G (va_A [(q_t, .inr (8, [.null, .null, .null, .null, .int 0, .null, .null, .null, .null, .null, .null, .null]))] sz) [(q_t, .inr (8, [.ref (u 1), .ref (u 3), .ref (u 5), .ref (u 7), .int 0, .ref (u 9), .ref (u 19), .ref (u 21), .ref (u 22), .ref (u 24), .ref (u 26), .ref (u 30)])), ((u 1), .inr (3, [.ref (u 2), .int 3])), ((u 2), .inl (G.2 0, 49, .inl (fun _ => 0))), ((u 3), .inr (3, [.ref (u 4), .int 3])), ((u 4), .inl (G.2 0, 49, .inl (fun _ => 0))), ((u 5), .inr (3, [.ref (u 6), .int 3])), ((u 6), .inl (G.2 0, 49, .inl (fun _ => 0))), ((u 7), .inr (3, [.ref (u 8), .int 3])), ((u 8), .inl (G.2 0, 49, .inl (fun _ => 0))), ((u 9), .inr (2, [.ref (u 10), .int 0, .int 0])), ((u 10), .inl (G.2 4, 4, .inr (.inr (.inr (.inr (st4 (u 11) (u 13) (u 15) (u 17))))))), ((u 11), .inr (3, [.ref (u 12), .int 3])), ((u 12), .inl (G.2 0, 49, .inl (fun _ => 0))), ((u 13), .inr (3, [.ref (u 14), .int 3])), ((u 14), .inl (G.2 0, 49, .inl (fun _ => 0))), ((u 15), .inr (3, [.ref (u 16), .int 3])), ((u 16), .inl (G.2 0, 49, .inl (fun _ => 0))), ((u 17), .inr (3, [.ref (u 18), .int 3])), ((u 18), .inl (G.2 0, 49, .inl (fun _ => 0))), ((u 19), .inr (6, [.ref (u 20), .int 0])), ((u 20), .inl (G.2 3, 100, .inl (fun _ => 0))), ((u 21), .inr (7, [.int 0, .int 0, .int 0, .int 0, .int 0])), ((u 22), .inr (0, [.ref (u 23)])), ((u 23), .inl (G.2 1, 128, .inr (.inl (fun _ => 0)))), ((u 24), .inr (1, [.ref (u 25)])), ((u 25), .inl (G.2 0, 128, .inl (fun _ => 0))), ((u 26), .inr (4, [.ref (u 27), .ref (u 28), .ref (u 29), .int 0])), ((u 27), .inl (G.2 2, 49, .inr (.inr (.inr (.inl (fun _ => 0)))))), ((u 28), .inl (G.2 2, 7, .inr (.inr (.inr (.inl (fun _ => 0)))))), ((u 29), .inl (G.2 2, 7, .inr (.inr (.inr (.inl (fun _ => 0)))))), ((u 30), .inr (5, [.ref (u 31), .ref (u 33), .ref (u 35), .ref (u 36), .int 0])), ((u 31), .inr (3, [.ref (u 32), .int 3])), ((u 32), .inl (G.2 0, 49, .inl (fun _ => 0))), ((u 33), .inr (1, [.ref (u 34)])), ((u 34), .inl (G.2 0, 128, .inl (fun _ => 0))), ((u 35), .inl (G.2 0, 49, .inl (fun _ => 0))), ((u 36), .inl (G.2 0, 49, .inl (fun _ => 0)))] t) (va_A [(q_t, .inr (8, [.null, .null, .null, .null, .int 0, .null, .null, .null, .null, .null, .null, .null]))] sz)) 36 1130 (va_A [(q_t, .inr (8, [.null, .null, .null, .null, .int 0, .null, .null, .null, .null, .null, .null, .null]))] sz) := by
  refine Met.ofW (cc := cX9_init) (maxL := 1) (ret := none) (by decide) rfl ?_
  intro p e s m args below meth c s₁ B hml hv
  obtain ⟨rfl, ⟨hsz, hP, hK, hD0⟩, hAO⟩ := hv
  subst hsz
  have hD := hD0.self (sz := s.heap.size)
  generalize hAe : va_A [(q_t, .inr (8, [.null, .null, .null, .null, .int 0, .null, .null, .null, .null, .null, .null, .null]))] s.heap.size = A at hD ⊢
  have hA : ∀ q : Nat, s.heap.size ≤ q → A q := fun q h => by rw [← hAe]; exact Or.inr h
  have hx := B.exec
  have hb := B.bytes
  have hown : s.vm.findClass RX9 = some m.cls := findClass_of_methodNamed B.named
  have hts := atoms_spec (ws := wsX9_init) B.pre
  have hin : meth.name = "<init>" := (name_of_methodNamed B.named B.method).1
  have hS : va_S A s.heap s.heap [] := va_S.rf
  have hl := lv_entry ([.ref q_t]) (n := 1) (Nat.le_of_ble_eq_true rfl)
  rw [lg_entry_eq]
  generalize (lg_sl ([.ref q_t]) ++ List.replicate (1 - (lg_sl ([.ref q_t])).length) Slot.unset).toArray = ls at hl ⊢
  have hl : lv_has ls 1 [(0, .ref q_t)] := hl
  refine lv_aload_n hx hb dX9_init_0 rfl (lv_at hl 0 rfl) ?_
  refine W.objInit hx hb hown (hts _ wd_X9_init_1) (hts _ wd_X9_init_2) (hts _ wd_X9_init_3) rfl (by rw [hml]; exact hl.1) rfl dX9_init_1 (Nat.le_of_ble_eq_true rfl) (Nat.le_of_ble_eq_true rfl) ?_
  refine W.eq (g2 := F0 m 4 ls []) rfl ?_
  refine lv_aload_n hx hb dX9_init_4 rfl (lv_at hl 0 rfl) ?_
  refine va_new (D := G.1) (ci := 3) (fs := [.null, .int 0]) (C := RX4) (T := TX4) (N := 2) hx hb hts wi_X9_init_X4 tyX4 tyX4_ok hown (hts _ wd_X9_init_4) (hts _ wd_X9_init_5) (hts _ wd_X9_init_6) hK hP hD hS hA rfl (fun j hj => by rcases (show j = 0 ∨ j = 1 by omega) with rfl | rfl <;> rfl) (Nat.le_of_ble_eq_true rfl) (Nat.le_of_ble_eq_true rfl) dX9_init_5 (fun q1 H hP hD hS => ?_)
  refine W.widen (k := 1) (n := 2) (Nat.le_of_ble_eq_true rfl) (Nat.le_of_ble_eq_true rfl) ?_
  have hP : va_P G.1 vwCl [(q_t, .inr (8, [.null, .null, .null, .null, .int 0, .null, .null, .null, .null, .null, .null, .null])), (q1, .inr (3, [.null, .int 0]))] H := hP
  have hD : va_D A [(q_t, .inr (8, [.null, .null, .null, .null, .int 0, .null, .null, .null, .null, .null, .null, .null])), (q1, .inr (3, [.null, .int 0]))] := hD
  refine lv_dup hx hb dX9_init_8 rfl ?_
  refine ck_I (rest := [.ref q1, .ref q_t]) ⟨hx, hb, hml, hown, hts⟩ hK hAO hP hD hS hA [1] [0] (c_X4_init l G q1 _) (cwI 0 hts gX9_init_X4_init rfl rfl rfl (hts _ wd_X9_init_6) (hts _ wd_X9_init_40) (hts _ wd_X9_init_41) rfl (by decide +kernel) ⟨Nat.le_of_ble_eq_true rfl, Nat.le_of_ble_eq_true rfl⟩) rfl rfl rfl rfl (by decide) hl.1 rfl (Nat.le_of_ble_eq_true rfl) dX9_init_9 ⟨Nat.le_of_ble_eq_true rfl, Nat.le_of_ble_eq_true rfl⟩ (fun u2 H locs hP hD hS => ?_)
  refine W.widen (k := 2) (n := 51) (Nat.le_of_ble_eq_true rfl) (Nat.le_of_ble_eq_true rfl) ?_
  have hP : va_P G.1 vwCl [(q_t, .inr (8, [.null, .null, .null, .null, .int 0, .null, .null, .null, .null, .null, .null, .null])), (q1, .inr (3, [.ref (u2 1), .int 3])), ((u2 1), .inl (G.2 0, 49, .inl (fun _ => 0)))] H := hP
  have hD : va_D A [(q_t, .inr (8, [.null, .null, .null, .null, .int 0, .null, .null, .null, .null, .null, .null, .null])), (q1, .inr (3, [.ref (u2 1), .int 3])), ((u2 1), .inl (G.2 0, 49, .inl (fun _ => 0)))] := hD
  refine va_putF (D := G.1) (ci := 8) (v := .ref q1) (ty := .object "PermanentDesk$Matrix") (C := RX9) (T := TX9) (N := 12) hx hb hts wi_X9_init_X9 tyX9 tyX9_ok nmX9 hown hK hP hD hS 0 rfl rfl 0 (by decide) (hts _ wd_X9_init_7) (fun _ h9 => h9) rfl hin rfl (by decide +kernel) rfl rfl (Nat.le_of_ble_eq_true rfl) dX9_init_12 (fun H locs hP hD hS => ?_)
  have hP : va_P G.1 vwCl [(q_t, .inr (8, [.ref q1, .null, .null, .null, .int 0, .null, .null, .null, .null, .null, .null, .null])), (q1, .inr (3, [.ref (u2 1), .int 3])), ((u2 1), .inl (G.2 0, 49, .inl (fun _ => 0)))] H := hP
  have hD : va_D A [(q_t, .inr (8, [.ref q1, .null, .null, .null, .int 0, .null, .null, .null, .null, .null, .null, .null])), (q1, .inr (3, [.ref (u2 1), .int 3])), ((u2 1), .inl (G.2 0, 49, .inl (fun _ => 0)))] := hD
  refine lv_aload_n hx hb dX9_init_15 rfl (lv_at hl 0 rfl) ?_
  refine va_new (D := G.1) (ci := 3) (fs := [.null, .int 0]) (C := RX4) (T := TX4) (N := 2) hx hb hts wi_X9_init_X4 tyX4 tyX4_ok hown (hts _ wd_X9_init_4) (hts _ wd_X9_init_5) (hts _ wd_X9_init_6) hK hP hD hS hA rfl (fun j hj => by rcases (show j = 0 ∨ j = 1 by omega) with rfl | rfl <;> rfl) (Nat.le_of_ble_eq_true rfl) (Nat.le_of_ble_eq_true rfl) dX9_init_16 (fun q3 H hP hD hS => ?_)
  refine W.widen (k := 3) (n := 53) (Nat.le_of_ble_eq_true rfl) (Nat.le_of_ble_eq_true rfl) ?_
  have hP : va_P G.1 vwCl [(q_t, .inr (8, [.ref q1, .null, .null, .null, .int 0, .null, .null, .null, .null, .null, .null, .null])), (q1, .inr (3, [.ref (u2 1), .int 3])), ((u2 1), .inl (G.2 0, 49, .inl (fun _ => 0))), (q3, .inr (3, [.null, .int 0]))] H := hP
  have hD : va_D A [(q_t, .inr (8, [.ref q1, .null, .null, .null, .int 0, .null, .null, .null, .null, .null, .null, .null])), (q1, .inr (3, [.ref (u2 1), .int 3])), ((u2 1), .inl (G.2 0, 49, .inl (fun _ => 0))), (q3, .inr (3, [.null, .int 0]))] := hD
  refine lv_dup hx hb dX9_init_19 rfl ?_
  refine ck_I (rest := [.ref q3, .ref q_t]) ⟨hx, hb, hml, hown, hts⟩ hK hAO hP hD hS hA [3] [0, 1, 2] (c_X4_init l G q3 _) (cwI 0 hts gX9_init_X4_init rfl rfl rfl (hts _ wd_X9_init_6) (hts _ wd_X9_init_40) (hts _ wd_X9_init_41) rfl (by decide +kernel) ⟨Nat.le_of_ble_eq_true rfl, Nat.le_of_ble_eq_true rfl⟩) rfl rfl rfl rfl (by decide) hl.1 rfl (Nat.le_of_ble_eq_true rfl) dX9_init_20 ⟨Nat.le_of_ble_eq_true rfl, Nat.le_of_ble_eq_true rfl⟩ (fun u4 H locs hP hD hS => ?_)
  refine W.widen (k := 4) (n := 102) (Nat.le_of_ble_eq_true rfl) (Nat.le_of_ble_eq_true rfl) ?_
  have hP : va_P G.1 vwCl [(q_t, .inr (8, [.ref q1, .null, .null, .null, .int 0, .null, .null, .null, .null, .null, .null, .null])), (q1, .inr (3, [.ref (u2 1), .int 3])), ((u2 1), .inl (G.2 0, 49, .inl (fun _ => 0))), (q3, .inr (3, [.ref (u4 1), .int 3])), ((u4 1), .inl (G.2 0, 49, .inl (fun _ => 0)))] H := hP
  have hD : va_D A [(q_t, .inr (8, [.ref q1, .null, .null, .null, .int 0, .null, .null, .null, .null, .null, .null, .null])), (q1, .inr (3, [.ref (u2 1), .int 3])), ((u2 1), .inl (G.2 0, 49, .inl (fun _ => 0))), (q3, .inr (3, [.ref (u4 1), .int 3])), ((u4 1), .inl (G.2 0, 49, .inl (fun _ => 0)))] := hD
  refine va_putF (D := G.1) (ci := 8) (v := .ref q3) (ty := .object "PermanentDesk$Matrix") (C := RX9) (T := TX9) (N := 12) hx hb hts wi_X9_init_X9 tyX9 tyX9_ok nmX9 hown hK hP hD hS 0 rfl rfl 1 (by decide) (hts _ wd_X9_init_8) (fun _ h9 => h9) rfl hin rfl (by decide +kernel) rfl rfl (Nat.le_of_ble_eq_true rfl) dX9_init_23 (fun H locs hP hD hS => ?_)
  have hP : va_P G.1 vwCl [(q_t, .inr (8, [.ref q1, .ref q3, .null, .null, .int 0, .null, .null, .null, .null, .null, .null, .null])), (q1, .inr (3, [.ref (u2 1), .int 3])), ((u2 1), .inl (G.2 0, 49, .inl (fun _ => 0))), (q3, .inr (3, [.ref (u4 1), .int 3])), ((u4 1), .inl (G.2 0, 49, .inl (fun _ => 0)))] H := hP
  have hD : va_D A [(q_t, .inr (8, [.ref q1, .ref q3, .null, .null, .int 0, .null, .null, .null, .null, .null, .null, .null])), (q1, .inr (3, [.ref (u2 1), .int 3])), ((u2 1), .inl (G.2 0, 49, .inl (fun _ => 0))), (q3, .inr (3, [.ref (u4 1), .int 3])), ((u4 1), .inl (G.2 0, 49, .inl (fun _ => 0)))] := hD
  refine lv_aload_n hx hb dX9_init_26 rfl (lv_at hl 0 rfl) ?_
  refine va_new (D := G.1) (ci := 3) (fs := [.null, .int 0]) (C := RX4) (T := TX4) (N := 2) hx hb hts wi_X9_init_X4 tyX4 tyX4_ok hown (hts _ wd_X9_init_4) (hts _ wd_X9_init_5) (hts _ wd_X9_init_6) hK hP hD hS hA rfl (fun j hj => by rcases (show j = 0 ∨ j = 1 by omega) with rfl | rfl <;> rfl) (Nat.le_of_ble_eq_true rfl) (Nat.le_of_ble_eq_true rfl) dX9_init_27 (fun q5 H hP hD hS => ?_)
  refine W.widen (k := 5) (n := 104) (Nat.le_of_ble_eq_true rfl) (Nat.le_of_ble_eq_true rfl) ?_
  have hP : va_P G.1 vwCl [(q_t, .inr (8, [.ref q1, .ref q3, .null, .null, .int 0, .null, .null, .null, .null, .null, .null, .null])), (q1, .inr (3, [.ref (u2 1), .int 3])), ((u2 1), .inl (G.2 0, 49, .inl (fun _ => 0))), (q3, .inr (3, [.ref (u4 1), .int 3])), ((u4 1), .inl (G.2 0, 49, .inl (fun _ => 0))), (q5, .inr (3, [.null, .int 0]))] H := hP
  have hD : va_D A [(q_t, .inr (8, [.ref q1, .ref q3, .null, .null, .int 0, .null, .null, .null, .null, .null, .null, .null])), (q1, .inr (3, [.ref (u2 1), .int 3])), ((u2 1), .inl (G.2 0, 49, .inl (fun _ => 0))), (q3, .inr (3, [.ref (u4 1), .int 3])), ((u4 1), .inl (G.2 0, 49, .inl (fun _ => 0))), (q5, .inr (3, [.null, .int 0]))] := hD
  refine lv_dup hx hb dX9_init_30 rfl ?_
  refine ck_I (rest := [.ref q5, .ref q_t]) ⟨hx, hb, hml, hown, hts⟩ hK hAO hP hD hS hA [5] [0, 1, 2, 3, 4] (c_X4_init l G q5 _) (cwI 0 hts gX9_init_X4_init rfl rfl rfl (hts _ wd_X9_init_6) (hts _ wd_X9_init_40) (hts _ wd_X9_init_41) rfl (by decide +kernel) ⟨Nat.le_of_ble_eq_true rfl, Nat.le_of_ble_eq_true rfl⟩) rfl rfl rfl rfl (by decide) hl.1 rfl (Nat.le_of_ble_eq_true rfl) dX9_init_31 ⟨Nat.le_of_ble_eq_true rfl, Nat.le_of_ble_eq_true rfl⟩ (fun u6 H locs hP hD hS => ?_)
  refine W.widen (k := 6) (n := 153) (Nat.le_of_ble_eq_true rfl) (Nat.le_of_ble_eq_true rfl) ?_
  have hP : va_P G.1 vwCl [(q_t, .inr (8, [.ref q1, .ref q3, .null, .null, .int 0, .null, .null, .null, .null, .null, .null, .null])), (q1, .inr (3, [.ref (u2 1), .int 3])), ((u2 1), .inl (G.2 0, 49, .inl (fun _ => 0))), (q3, .inr (3, [.ref (u4 1), .int 3])), ((u4 1), .inl (G.2 0, 49, .inl (fun _ => 0))), (q5, .inr (3, [.ref (u6 1), .int 3])), ((u6 1), .inl (G.2 0, 49, .inl (fun _ => 0)))] H := hP
  have hD : va_D A [(q_t, .inr (8, [.ref q1, .ref q3, .null, .null, .int 0, .null, .null, .null, .null, .null, .null, .null])), (q1, .inr (3, [.ref (u2 1), .int 3])), ((u2 1), .inl (G.2 0, 49, .inl (fun _ => 0))), (q3, .inr (3, [.ref (u4 1), .int 3])), ((u4 1), .inl (G.2 0, 49, .inl (fun _ => 0))), (q5, .inr (3, [.ref (u6 1), .int 3])), ((u6 1), .inl (G.2 0, 49, .inl (fun _ => 0)))] := hD
  refine va_putF (D := G.1) (ci := 8) (v := .ref q5) (ty := .object "PermanentDesk$Matrix") (C := RX9) (T := TX9) (N := 12) hx hb hts wi_X9_init_X9 tyX9 tyX9_ok nmX9 hown hK hP hD hS 0 rfl rfl 2 (by decide) (hts _ wd_X9_init_9) (fun _ h9 => h9) rfl hin rfl (by decide +kernel) rfl rfl (Nat.le_of_ble_eq_true rfl) dX9_init_34 (fun H locs hP hD hS => ?_)
  have hP : va_P G.1 vwCl [(q_t, .inr (8, [.ref q1, .ref q3, .ref q5, .null, .int 0, .null, .null, .null, .null, .null, .null, .null])), (q1, .inr (3, [.ref (u2 1), .int 3])), ((u2 1), .inl (G.2 0, 49, .inl (fun _ => 0))), (q3, .inr (3, [.ref (u4 1), .int 3])), ((u4 1), .inl (G.2 0, 49, .inl (fun _ => 0))), (q5, .inr (3, [.ref (u6 1), .int 3])), ((u6 1), .inl (G.2 0, 49, .inl (fun _ => 0)))] H := hP
  have hD : va_D A [(q_t, .inr (8, [.ref q1, .ref q3, .ref q5, .null, .int 0, .null, .null, .null, .null, .null, .null, .null])), (q1, .inr (3, [.ref (u2 1), .int 3])), ((u2 1), .inl (G.2 0, 49, .inl (fun _ => 0))), (q3, .inr (3, [.ref (u4 1), .int 3])), ((u4 1), .inl (G.2 0, 49, .inl (fun _ => 0))), (q5, .inr (3, [.ref (u6 1), .int 3])), ((u6 1), .inl (G.2 0, 49, .inl (fun _ => 0)))] := hD
  refine lv_aload_n hx hb dX9_init_37 rfl (lv_at hl 0 rfl) ?_
  refine va_new (D := G.1) (ci := 3) (fs := [.null, .int 0]) (C := RX4) (T := TX4) (N := 2) hx hb hts wi_X9_init_X4 tyX4 tyX4_ok hown (hts _ wd_X9_init_4) (hts _ wd_X9_init_5) (hts _ wd_X9_init_6) hK hP hD hS hA rfl (fun j hj => by rcases (show j = 0 ∨ j = 1 by omega) with rfl | rfl <;> rfl) (Nat.le_of_ble_eq_true rfl) (Nat.le_of_ble_eq_true rfl) dX9_init_38 (fun q7 H hP hD hS => ?_)
  refine W.widen (k := 7) (n := 155) (Nat.le_of_ble_eq_true rfl) (Nat.le_of_ble_eq_true rfl) ?_
  have hP : va_P G.1 vwCl [(q_t, .inr (8, [.ref q1, .ref q3, .ref q5, .null, .int 0, .null, .null, .null, .null, .null, .null, .null])), (q1, .inr (3, [.ref (u2 1), .int 3])), ((u2 1), .inl (G.2 0, 49, .inl (fun _ => 0))), (q3, .inr (3, [.ref (u4 1), .int 3])), ((u4 1), .inl (G.2 0, 49, .inl (fun _ => 0))), (q5, .inr (3, [.ref (u6 1), .int 3])), ((u6 1), .inl (G.2 0, 49, .inl (fun _ => 0))), (q7, .inr (3, [.null, .int 0]))] H := hP
  have hD : va_D A [(q_t, .inr (8, [.ref q1, .ref q3, .ref q5, .null, .int 0, .null, .null, .null, .null, .null, .null, .null])), (q1, .inr (3, [.ref (u2 1), .int 3])), ((u2 1), .inl (G.2 0, 49, .inl (fun _ => 0))), (q3, .inr (3, [.ref (u4 1), .int 3])), ((u4 1), .inl (G.2 0, 49, .inl (fun _ => 0))), (q5, .inr (3, [.ref (u6 1), .int 3])), ((u6 1), .inl (G.2 0, 49, .inl (fun _ => 0))), (q7, .inr (3, [.null, .int 0]))] := hD
  refine lv_dup hx hb dX9_init_41 rfl ?_
  refine ck_I (rest := [.ref q7, .ref q_t]) ⟨hx, hb, hml, hown, hts⟩ hK hAO hP hD hS hA [7] [0, 1, 2, 3, 4, 5, 6] (c_X4_init l G q7 _) (cwI 0 hts gX9_init_X4_init rfl rfl rfl (hts _ wd_X9_init_6) (hts _ wd_X9_init_40) (hts _ wd_X9_init_41) rfl (by decide +kernel) ⟨Nat.le_of_ble_eq_true rfl, Nat.le_of_ble_eq_true rfl⟩) rfl rfl rfl rfl (by decide) hl.1 rfl (Nat.le_of_ble_eq_true rfl) dX9_init_42 ⟨Nat.le_of_ble_eq_true rfl, Nat.le_of_ble_eq_true rfl⟩ (fun u8 H locs hP hD hS => ?_)
  refine W.widen (k := 8) (n := 204) (Nat.le_of_ble_eq_true rfl) (Nat.le_of_ble_eq_true rfl) ?_
  have hP : va_P G.1 vwCl [(q_t, .inr (8, [.ref q1, .ref q3, .ref q5, .null, .int 0, .null, .null, .null, .null, .null, .null, .null])), (q1, .inr (3, [.ref (u2 1), .int 3])), ((u2 1), .inl (G.2 0, 49, .inl (fun _ => 0))), (q3, .inr (3, [.ref (u4 1), .int 3])), ((u4 1), .inl (G.2 0, 49, .inl (fun _ => 0))), (q5, .inr (3, [.ref (u6 1), .int 3])), ((u6 1), .inl (G.2 0, 49, .inl (fun _ => 0))), (q7, .inr (3, [.ref (u8 1), .int 3])), ((u8 1), .inl (G.2 0, 49, .inl (fun _ => 0)))] H := hP
  have hD : va_D A [(q_t, .inr (8, [.ref q1, .ref q3, .ref q5, .null, .int 0, .null, .null, .null, .null, .null, .null, .null])), (q1, .inr (3, [.ref (u2 1), .int 3])), ((u2 1), .inl (G.2 0, 49, .inl (fun _ => 0))), (q3, .inr (3, [.ref (u4 1), .int 3])), ((u4 1), .inl (G.2 0, 49, .inl (fun _ => 0))), (q5, .inr (3, [.ref (u6 1), .int 3])), ((u6 1), .inl (G.2 0, 49, .inl (fun _ => 0))), (q7, .inr (3, [.ref (u8 1), .int 3])), ((u8 1), .inl (G.2 0, 49, .inl (fun _ => 0)))] := hD
  refine va_putF (D := G.1) (ci := 8) (v := .ref q7) (ty := .object "PermanentDesk$Matrix") (C := RX9) (T := TX9) (N := 12) hx hb hts wi_X9_init_X9 tyX9 tyX9_ok nmX9 hown hK hP hD hS 0 rfl rfl 3 (by decide) (hts _ wd_X9_init_10) (fun _ h9 => h9) rfl hin rfl (by decide +kernel) rfl rfl (Nat.le_of_ble_eq_true rfl) dX9_init_45 (fun H locs hP hD hS => ?_)
  have hP : va_P G.1 vwCl [(q_t, .inr (8, [.ref q1, .ref q3, .ref q5, .ref q7, .int 0, .null, .null, .null, .null, .null, .null, .null])), (q1, .inr (3, [.ref (u2 1), .int 3])), ((u2 1), .inl (G.2 0, 49, .inl (fun _ => 0))), (q3, .inr (3, [.ref (u4 1), .int 3])), ((u4 1), .inl (G.2 0, 49, .inl (fun _ => 0))), (q5, .inr (3, [.ref (u6 1), .int 3])), ((u6 1), .inl (G.2 0, 49, .inl (fun _ => 0))), (q7, .inr (3, [.ref (u8 1), .int 3])), ((u8 1), .inl (G.2 0, 49, .inl (fun _ => 0)))] H := hP
  have hD : va_D A [(q_t, .inr (8, [.ref q1, .ref q3, .ref q5, .ref q7, .int 0, .null, .null, .null, .null, .null, .null, .null])), (q1, .inr (3, [.ref (u2 1), .int 3])), ((u2 1), .inl (G.2 0, 49, .inl (fun _ => 0))), (q3, .inr (3, [.ref (u4 1), .int 3])), ((u4 1), .inl (G.2 0, 49, .inl (fun _ => 0))), (q5, .inr (3, [.ref (u6 1), .int 3])), ((u6 1), .inl (G.2 0, 49, .inl (fun _ => 0))), (q7, .inr (3, [.ref (u8 1), .int 3])), ((u8 1), .inl (G.2 0, 49, .inl (fun _ => 0)))] := hD
  refine lv_aload_n hx hb dX9_init_48 rfl (lv_at hl 0 rfl) ?_
  refine lv_iconst (v := 0) hx hb dX9_init_49 (by decide) ?_
  refine st_put (D := G.1) (ci := 8) (v := .int 0) (ty := .boolean) (C := RX9) (T := TX9) (N := 12) (wn := [(q_t, .inr (8, [.ref q1, .ref q3, .ref q5, .ref q7, .int 0, .null, .null, .null, .null, .null, .null, .null])), (q1, .inr (3, [.ref (u2 1), .int 3])), ((u2 1), .inl (G.2 0, 49, .inl (fun _ => 0))), (q3, .inr (3, [.ref (u4 1), .int 3])), ((u4 1), .inl (G.2 0, 49, .inl (fun _ => 0))), (q5, .inr (3, [.ref (u6 1), .int 3])), ((u6 1), .inl (G.2 0, 49, .inl (fun _ => 0))), (q7, .inr (3, [.ref (u8 1), .int 3])), ((u8 1), .inl (G.2 0, 49, .inl (fun _ => 0)))]) hx hb hts wi_X9_init_X9 tyX9 tyX9_ok nmX9 hown hK hP hD hS 0 rfl rfl 4 (by decide) (hts _ wd_X9_init_11) (fun _ h9 => h9) rfl (by decide +kernel) rfl rfl (Nat.le_of_ble_eq_true rfl) dX9_init_50 rfl (fun H locs hP hD hS => ?_)
  refine lv_aload_n hx hb dX9_init_53 rfl (lv_at hl 0 rfl) ?_
  refine va_new (D := G.1) (ci := 2) (fs := [.null, .int 0, .int 0]) (C := RX3) (T := TX3) (N := 3) hx hb hts wi_X9_init_X3 tyX3 tyX3_ok hown (hts _ wd_X9_init_12) (hts _ wd_X9_init_13) (hts _ wd_X9_init_14) hK hP hD hS hA rfl (fun j hj => by rcases (show j = 0 ∨ j = 1 ∨ j = 2 by omega) with rfl | rfl | rfl <;> rfl) (Nat.le_of_ble_eq_true rfl) (Nat.le_of_ble_eq_true rfl) dX9_init_54 (fun q9 H hP hD hS => ?_)
  refine W.widen (k := 9) (n := 207) (Nat.le_of_ble_eq_true rfl) (Nat.le_of_ble_eq_true rfl) ?_
  have hP : va_P G.1 vwCl [(q_t, .inr (8, [.ref q1, .ref q3, .ref q5, .ref q7, .int 0, .null, .null, .null, .null, .null, .null, .null])), (q1, .inr (3, [.ref (u2 1), .int 3])), ((u2 1), .inl (G.2 0, 49, .inl (fun _ => 0))), (q3, .inr (3, [.ref (u4 1), .int 3])), ((u4 1), .inl (G.2 0, 49, .inl (fun _ => 0))), (q5, .inr (3, [.ref (u6 1), .int 3])), ((u6 1), .inl (G.2 0, 49, .inl (fun _ => 0))), (q7, .inr (3, [.ref (u8 1), .int 3])), ((u8 1), .inl (G.2 0, 49, .inl (fun _ => 0))), (q9, .inr (2, [.null, .int 0, .int 0]))] H := hP
  have hD : va_D A [(q_t, .inr (8, [.ref q1, .ref q3, .ref q5, .ref q7, .int 0, .null, .null, .null, .null, .null, .null, .null])), (q1, .inr (3, [.ref (u2 1), .int 3])), ((u2 1), .inl (G.2 0, 49, .inl (fun _ => 0))), (q3, .inr (3, [.ref (u4 1), .int 3])), ((u4 1), .inl (G.2 0, 49, .inl (fun _ => 0))), (q5, .inr (3, [.ref (u6 1), .int 3])), ((u6 1), .inl (G.2 0, 49, .inl (fun _ => 0))), (q7, .inr (3, [.ref (u8 1), .int 3])), ((u8 1), .inl (G.2 0, 49, .inl (fun _ => 0))), (q9, .inr (2, [.null, .int 0, .int 0]))] := hD
  refine lv_dup hx hb dX9_init_57 rfl ?_
  refine ck_I (rest := [.ref q9, .ref q_t]) ⟨hx, hb, hml, hown, hts⟩ hK hAO hP hD hS hA [9] [0, 1, 2, 3, 4, 5, 6, 7, 8] (c_X3_init l G q9 _) (cwI 0 hts gX9_init_X3_init rfl rfl rfl (hts _ wd_X9_init_14) (hts _ wd_X9_init_47) (hts _ wd_X9_init_48) rfl (by decide +kernel) ⟨Nat.le_of_ble_eq_true rfl, Nat.le_of_ble_eq_true rfl⟩) rfl rfl rfl rfl (by decide) hl.1 rfl (Nat.le_of_ble_eq_true rfl) dX9_init_58 ⟨Nat.le_of_ble_eq_true rfl, Nat.le_of_ble_eq_true rfl⟩ (fun u10 H locs hP hD hS => ?_)
  refine W.widen (k := 18) (n := 415) (Nat.le_of_ble_eq_true rfl) (Nat.le_of_ble_eq_true rfl) ?_
  have hP : va_P G.1 vwCl [(q_t, .inr (8, [.ref q1, .ref q3, .ref q5, .ref q7, .int 0, .null, .null, .null, .null, .null, .null, .null])), (q1, .inr (3, [.ref (u2 1), .int 3])), ((u2 1), .inl (G.2 0, 49, .inl (fun _ => 0))), (q3, .inr (3, [.ref (u4 1), .int 3])), ((u4 1), .inl (G.2 0, 49, .inl (fun _ => 0))), (q5, .inr (3, [.ref (u6 1), .int 3])), ((u6 1), .inl (G.2 0, 49, .inl (fun _ => 0))), (q7, .inr (3, [.ref (u8 1), .int 3])), ((u8 1), .inl (G.2 0, 49, .inl (fun _ => 0))), (q9, .inr (2, [.ref (u10 1), .int 0, .int 0])), ((u10 1), .inl (G.2 4, 4, .inr (.inr (.inr (.inr (st4 (u10 2) (u10 4) (u10 6) (u10 8))))))), ((u10 2), .inr (3, [.ref (u10 3), .int 3])), ((u10 3), .inl (G.2 0, 49, .inl (fun _ => 0))), ((u10 4), .inr (3, [.ref (u10 5), .int 3])), ((u10 5), .inl (G.2 0, 49, .inl (fun _ => 0))), ((u10 6), .inr (3, [.ref (u10 7), .int 3])), ((u10 7), .inl (G.2 0, 49, .inl (fun _ => 0))), ((u10 8), .inr (3, [.ref (u10 9), .int 3])), ((u10 9), .inl (G.2 0, 49, .inl (fun _ => 0)))] H := hP
  have hD : va_D A [(q_t, .inr (8, [.ref q1, .ref q3, .ref q5, .ref q7, .int 0, .null, .null, .null, .null, .null, .null, .null])), (q1, .inr (3, [.ref (u2 1), .int 3])), ((u2 1), .inl (G.2 0, 49, .inl (fun _ => 0))), (q3, .inr (3, [.ref (u4 1), .int 3])), ((u4 1), .inl (G.2 0, 49, .inl (fun _ => 0))), (q5, .inr (3, [.ref (u6 1), .int 3])), ((u6 1), .inl (G.2 0, 49, .inl (fun _ => 0))), (q7, .inr (3, [.ref (u8 1), .int 3])), ((u8 1), .inl (G.2 0, 49, .inl (fun _ => 0))), (q9, .inr (2, [.ref (u10 1), .int 0, .int 0])), ((u10 1), .inl (G.2 4, 4, .inr (.inr (.inr (.inr (st4 (u10 2) (u10 4) (u10 6) (u10 8))))))), ((u10 2), .inr (3, [.ref (u10 3), .int 3])), ((u10 3), .inl (G.2 0, 49, .inl (fun _ => 0))), ((u10 4), .inr (3, [.ref (u10 5), .int 3])), ((u10 5), .inl (G.2 0, 49, .inl (fun _ => 0))), ((u10 6), .inr (3, [.ref (u10 7), .int 3])), ((u10 7), .inl (G.2 0, 49, .inl (fun _ => 0))), ((u10 8), .inr (3, [.ref (u10 9), .int 3])), ((u10 9), .inl (G.2 0, 49, .inl (fun _ => 0)))] := hD
  refine va_putF (D := G.1) (ci := 8) (v := .ref q9) (ty := .object "PermanentDesk$History") (C := RX9) (T := TX9) (N := 12) hx hb hts wi_X9_init_X9 tyX9 tyX9_ok nmX9 hown hK hP hD hS 0 rfl rfl 5 (by decide) (hts _ wd_X9_init_15) (fun _ h9 => h9) rfl hin rfl (by decide +kernel) rfl rfl (Nat.le_of_ble_eq_true rfl) dX9_init_61 (fun H locs hP hD hS => ?_)
  have hP : va_P G.1 vwCl [(q_t, .inr (8, [.ref q1, .ref q3, .ref q5, .ref q7, .int 0, .ref q9, .null, .null, .null, .null, .null, .null])), (q1, .inr (3, [.ref (u2 1), .int 3])), ((u2 1), .inl (G.2 0, 49, .inl (fun _ => 0))), (q3, .inr (3, [.ref (u4 1), .int 3])), ((u4 1), .inl (G.2 0, 49, .inl (fun _ => 0))), (q5, .inr (3, [.ref (u6 1), .int 3])), ((u6 1), .inl (G.2 0, 49, .inl (fun _ => 0))), (q7, .inr (3, [.ref (u8 1), .int 3])), ((u8 1), .inl (G.2 0, 49, .inl (fun _ => 0))), (q9, .inr (2, [.ref (u10 1), .int 0, .int 0])), ((u10 1), .inl (G.2 4, 4, .inr (.inr (.inr (.inr (st4 (u10 2) (u10 4) (u10 6) (u10 8))))))), ((u10 2), .inr (3, [.ref (u10 3), .int 3])), ((u10 3), .inl (G.2 0, 49, .inl (fun _ => 0))), ((u10 4), .inr (3, [.ref (u10 5), .int 3])), ((u10 5), .inl (G.2 0, 49, .inl (fun _ => 0))), ((u10 6), .inr (3, [.ref (u10 7), .int 3])), ((u10 7), .inl (G.2 0, 49, .inl (fun _ => 0))), ((u10 8), .inr (3, [.ref (u10 9), .int 3])), ((u10 9), .inl (G.2 0, 49, .inl (fun _ => 0)))] H := hP
  have hD : va_D A [(q_t, .inr (8, [.ref q1, .ref q3, .ref q5, .ref q7, .int 0, .ref q9, .null, .null, .null, .null, .null, .null])), (q1, .inr (3, [.ref (u2 1), .int 3])), ((u2 1), .inl (G.2 0, 49, .inl (fun _ => 0))), (q3, .inr (3, [.ref (u4 1), .int 3])), ((u4 1), .inl (G.2 0, 49, .inl (fun _ => 0))), (q5, .inr (3, [.ref (u6 1), .int 3])), ((u6 1), .inl (G.2 0, 49, .inl (fun _ => 0))), (q7, .inr (3, [.ref (u8 1), .int 3])), ((u8 1), .inl (G.2 0, 49, .inl (fun _ => 0))), (q9, .inr (2, [.ref (u10 1), .int 0, .int 0])), ((u10 1), .inl (G.2 4, 4, .inr (.inr (.inr (.inr (st4 (u10 2) (u10 4) (u10 6) (u10 8))))))), ((u10 2), .inr (3, [.ref (u10 3), .int 3])), ((u10 3), .inl (G.2 0, 49, .inl (fun _ => 0))), ((u10 4), .inr (3, [.ref (u10 5), .int 3])), ((u10 5), .inl (G.2 0, 49, .inl (fun _ => 0))), ((u10 6), .inr (3, [.ref (u10 7), .int 3])), ((u10 7), .inl (G.2 0, 49, .inl (fun _ => 0))), ((u10 8), .inr (3, [.ref (u10 9), .int 3])), ((u10 9), .inl (G.2 0, 49, .inl (fun _ => 0)))] := hD
  refine lv_aload_n hx hb dX9_init_64 rfl (lv_at hl 0 rfl) ?_
  refine va_new (D := G.1) (ci := 6) (fs := [.null, .int 0]) (C := RX7) (T := TX7) (N := 2) hx hb hts wi_X9_init_X7 tyX7 tyX7_ok hown (hts _ wd_X9_init_16) (hts _ wd_X9_init_17) (hts _ wd_X9_init_18) hK hP hD hS hA rfl (fun j hj => by rcases (show j = 0 ∨ j = 1 by omega) with rfl | rfl <;> rfl) (Nat.le_of_ble_eq_true rfl) (Nat.le_of_ble_eq_true rfl) dX9_init_65 (fun q11 H hP hD hS => ?_)
  refine W.widen (k := 19) (n := 417) (Nat.le_of_ble_eq_true rfl) (Nat.le_of_ble_eq_true rfl) ?_
  have hP : va_P G.1 vwCl [(q_t, .inr (8, [.ref q1, .ref q3, .ref q5, .ref q7, .int 0, .ref q9, .null, .null, .null, .null, .null, .null])), (q1, .inr (3, [.ref (u2 1), .int 3])), ((u2 1), .inl (G.2 0, 49, .inl (fun _ => 0))), (q3, .inr (3, [.ref (u4 1), .int 3])), ((u4 1), .inl (G.2 0, 49, .inl (fun _ => 0))), (q5, .inr (3, [.ref (u6 1), .int 3])), ((u6 1), .inl (G.2 0, 49, .inl (fun _ => 0))), (q7, .inr (3, [.ref (u8 1), .int 3])), ((u8 1), .inl (G.2 0, 49, .inl (fun _ => 0))), (q9, .inr (2, [.ref (u10 1), .int 0, .int 0])), ((u10 1), .inl (G.2 4, 4, .inr (.inr (.inr (.inr (st4 (u10 2) (u10 4) (u10 6) (u10 8))))))), ((u10 2), .inr (3, [.ref (u10 3), .int 3])), ((u10 3), .inl (G.2 0, 49, .inl (fun _ => 0))), ((u10 4), .inr (3, [.ref (u10 5), .int 3])), ((u10 5), .inl (G.2 0, 49, .inl (fun _ => 0))), ((u10 6), .inr (3, [.ref (u10 7), .int 3])), ((u10 7), .inl (G.2 0, 49, .inl (fun _ => 0))), ((u10 8), .inr (3, [.ref (u10 9), .int 3])), ((u10 9), .inl (G.2 0, 49, .inl (fun _ => 0))), (q11, .inr (6, [.null, .int 0]))] H := hP
  have hD : va_D A [(q_t, .inr (8, [.ref q1, .ref q3, .ref q5, .ref q7, .int 0, .ref q9, .null, .null, .null, .null, .null, .null])), (q1, .inr (3, [.ref (u2 1), .int 3])), ((u2 1), .inl (G.2 0, 49, .inl (fun _ => 0))), (q3, .inr (3, [.ref (u4 1), .int 3])), ((u4 1), .inl (G.2 0, 49, .inl (fun _ => 0))), (q5, .inr (3, [.ref (u6 1), .int 3])), ((u6 1), .inl (G.2 0, 49, .inl (fun _ => 0))), (q7, .inr (3, [.ref (u8 1), .int 3])), ((u8 1), .inl (G.2 0, 49, .inl (fun _ => 0))), (q9, .inr (2, [.ref (u10 1), .int 0, .int 0])), ((u10 1), .inl (G.2 4, 4, .inr (.inr (.inr (.inr (st4 (u10 2) (u10 4) (u10 6) (u10 8))))))), ((u10 2), .inr (3, [.ref (u10 3), .int 3])), ((u10 3), .inl (G.2 0, 49, .inl (fun _ => 0))), ((u10 4), .inr (3, [.ref (u10 5), .int 3])), ((u10 5), .inl (G.2 0, 49, .inl (fun _ => 0))), ((u10 6), .inr (3, [.ref (u10 7), .int 3])), ((u10 7), .inl (G.2 0, 49, .inl (fun _ => 0))), ((u10 8), .inr (3, [.ref (u10 9), .int 3])), ((u10 9), .inl (G.2 0, 49, .inl (fun _ => 0))), (q11, .inr (6, [.null, .int 0]))] := hD
  refine lv_dup hx hb dX9_init_68 rfl ?_
  refine ck_I (rest := [.ref q11, .ref q_t]) ⟨hx, hb, hml, hown, hts⟩ hK hAO hP hD hS hA [19] [0, 1, 2, 3, 4, 5, 6, 7, 8, 9, 10, 11, 12, 13, 14, 15, 16, 17, 18] (c_X7_init l G q11 _) (cwI 0 hts gX9_init_X7_init rfl rfl rfl (hts _ wd_X9_init_18) (hts _ wd_X9_init_56) (hts _ wd_X9_init_57) rfl (by decide +kernel) ⟨Nat.le_of_ble_eq_true rfl, Nat.le_of_ble_eq_true rfl⟩) rfl rfl rfl rfl (by decide) hl.1 rfl (Nat.le_of_ble_eq_true rfl) dX9_init_69 ⟨Nat.le_of_ble_eq_true rfl, Nat.le_of_ble_eq_true rfl⟩ (fun u12 H locs hP hD hS => ?_)
  refine W.widen (k := 20) (n := 517) (Nat.le_of_ble_eq_true rfl) (Nat.le_of_ble_eq_true rfl) ?_
  have hP : va_P G.1 vwCl [(q_t, .inr (8, [.ref q1, .ref q3, .ref q5, .ref q7, .int 0, .ref q9, .null, .null, .null, .null, .null, .null])), (q1, .inr (3, [.ref (u2 1), .int 3])), ((u2 1), .inl (G.2 0, 49, .inl (fun _ => 0))), (q3, .inr (3, [.ref (u4 1), .int 3])), ((u4 1), .inl (G.2 0, 49, .inl (fun _ => 0))), (q5, .inr (3, [.ref (u6 1), .int 3])), ((u6 1), .inl (G.2 0, 49, .inl (fun _ => 0))), (q7, .inr (3, [.ref (u8 1), .int 3])), ((u8 1), .inl (G.2 0, 49, .inl (fun _ => 0))), (q9, .inr (2, [.ref (u10 1), .int 0, .int 0])), ((u10 1), .inl (G.2 4, 4, .inr (.inr (.inr (.inr (st4 (u10 2) (u10 4) (u10 6) (u10 8))))))), ((u10 2), .inr (3, [.ref (u10 3), .int 3])), ((u10 3), .inl (G.2 0, 49, .inl (fun _ => 0))), ((u10 4), .inr (3, [.ref (u10 5), .int 3])), ((u10 5), .inl (G.2 0, 49, .inl (fun _ => 0))), ((u10 6), .inr (3, [.ref (u10 7), .int 3])), ((u10 7), .inl (G.2 0, 49, .inl (fun _ => 0))), ((u10 8), .inr (3, [.ref (u10 9), .int 3])), ((u10 9), .inl (G.2 0, 49, .inl (fun _ => 0))), (q11, .inr (6, [.ref (u12 1), .int 0])), ((u12 1), .inl (G.2 3, 100, .inl (fun _ => 0)))] H := hP
  have hD : va_D A [(q_t, .inr (8, [.ref q1, .ref q3, .ref q5, .ref q7, .int 0, .ref q9, .null, .null, .null, .null, .null, .null])), (q1, .inr (3, [.ref (u2 1), .int 3])), ((u2 1), .inl (G.2 0, 49, .inl (fun _ => 0))), (q3, .inr (3, [.ref (u4 1), .int 3])), ((u4 1), .inl (G.2 0, 49, .inl (fun _ => 0))), (q5, .inr (3, [.ref (u6 1), .int 3])), ((u6 1), .inl (G.2 0, 49, .inl (fun _ => 0))), (q7, .inr (3, [.ref (u8 1), .int 3])), ((u8 1), .inl (G.2 0, 49, .inl (fun _ => 0))), (q9, .inr (2, [.ref (u10 1), .int 0, .int 0])), ((u10 1), .inl (G.2 4, 4, .inr (.inr (.inr (.inr (st4 (u10 2) (u10 4) (u10 6) (u10 8))))))), ((u10 2), .inr (3, [.ref (u10 3), .int 3])), ((u10 3), .inl (G.2 0, 49, .inl (fun _ => 0))), ((u10 4), .inr (3, [.ref (u10 5), .int 3])), ((u10 5), .inl (G.2 0, 49, .inl (fun _ => 0))), ((u10 6), .inr (3, [.ref (u10 7), .int 3])), ((u10 7), .inl (G.2 0, 49, .inl (fun _ => 0))), ((u10 8), .inr (3, [.ref (u10 9), .int 3])), ((u10 9), .inl (G.2 0, 49, .inl (fun _ => 0))), (q11, .inr (6, [.ref (u12 1), .int 0])), ((u12 1), .inl (G.2 3, 100, .inl (fun _ => 0)))] := hD
  refine va_putF (D := G.1) (ci := 8) (v := .ref q11) (ty := .object "PermanentDesk$Text") (C := RX9) (T := TX9) (N := 12) hx hb hts wi_X9_init_X9 tyX9 tyX9_ok nmX9 hown hK hP hD hS 0 rfl rfl 6 (by decide) (hts _ wd_X9_init_19) (fun _ h9 => h9) rfl hin rfl (by decide +kernel) rfl rfl (Nat.le_of_ble_eq_true rfl) dX9_init_72 (fun H locs hP hD hS => ?_)
  have hP : va_P G.1 vwCl [(q_t, .inr (8, [.ref q1, .ref q3, .ref q5, .ref q7, .int 0, .ref q9, .ref q11, .null, .null, .null, .null, .null])), (q1, .inr (3, [.ref (u2 1), .int 3])), ((u2 1), .inl (G.2 0, 49, .inl (fun _ => 0))), (q3, .inr (3, [.ref (u4 1), .int 3])), ((u4 1), .inl (G.2 0, 49, .inl (fun _ => 0))), (q5, .inr (3, [.ref (u6 1), .int 3])), ((u6 1), .inl (G.2 0, 49, .inl (fun _ => 0))), (q7, .inr (3, [.ref (u8 1), .int 3])), ((u8 1), .inl (G.2 0, 49, .inl (fun _ => 0))), (q9, .inr (2, [.ref (u10 1), .int 0, .int 0])), ((u10 1), .inl (G.2 4, 4, .inr (.inr (.inr (.inr (st4 (u10 2) (u10 4) (u10 6) (u10 8))))))), ((u10 2), .inr (3, [.ref (u10 3), .int 3])), ((u10 3), .inl (G.2 0, 49, .inl (fun _ => 0))), ((u10 4), .inr (3, [.ref (u10 5), .int 3])), ((u10 5), .inl (G.2 0, 49, .inl (fun _ => 0))), ((u10 6), .inr (3, [.ref (u10 7), .int 3])), ((u10 7), .inl (G.2 0, 49, .inl (fun _ => 0))), ((u10 8), .inr (3, [.ref (u10 9), .int 3])), ((u10 9), .inl (G.2 0, 49, .inl (fun _ => 0))), (q11, .inr (6, [.ref (u12 1), .int 0])), ((u12 1), .inl (G.2 3, 100, .inl (fun _ => 0)))] H := hP
  have hD : va_D A [(q_t, .inr (8, [.ref q1, .ref q3, .ref q5, .ref q7, .int 0, .ref q9, .ref q11, .null, .null, .null, .null, .null])), (q1, .inr (3, [.ref (u2 1), .int 3])), ((u2 1), .inl (G.2 0, 49, .inl (fun _ => 0))), (q3, .inr (3, [.ref (u4 1), .int 3])), ((u4 1), .inl (G.2 0, 49, .inl (fun _ => 0))), (q5, .inr (3, [.ref (u6 1), .int 3])), ((u6 1), .inl (G.2 0, 49, .inl (fun _ => 0))), (q7, .inr (3, [.ref (u8 1), .int 3])), ((u8 1), .inl (G.2 0, 49, .inl (fun _ => 0))), (q9, .inr (2, [.ref (u10 1), .int 0, .int 0])), ((u10 1), .inl (G.2 4, 4, .inr (.inr (.inr (.inr (st4 (u10 2) (u10 4) (u10 6) (u10 8))))))), ((u10 2), .inr (3, [.ref (u10 3), .int 3])), ((u10 3), .inl (G.2 0, 49, .inl (fun _ => 0))), ((u10 4), .inr (3, [.ref (u10 5), .int 3])), ((u10 5), .inl (G.2 0, 49, .inl (fun _ => 0))), ((u10 6), .inr (3, [.ref (u10 7), .int 3])), ((u10 7), .inl (G.2 0, 49, .inl (fun _ => 0))), ((u10 8), .inr (3, [.ref (u10 9), .int 3])), ((u10 9), .inl (G.2 0, 49, .inl (fun _ => 0))), (q11, .inr (6, [.ref (u12 1), .int 0])), ((u12 1), .inl (G.2 3, 100, .inl (fun _ => 0)))] := hD
  refine lv_aload_n hx hb dX9_init_75 rfl (lv_at hl 0 rfl) ?_
  refine va_new (D := G.1) (ci := 7) (fs := [.int 0, .int 0, .int 0, .int 0, .int 0]) (C := RX8) (T := TX8) (N := 5) hx hb hts wi_X9_init_X8 tyX8 tyX8_ok hown (hts _ wd_X9_init_20) (hts _ wd_X9_init_21) (hts _ wd_X9_init_22) hK hP hD hS hA rfl (fun j hj => by rcases (show j = 0 ∨ j = 1 ∨ j = 2 ∨ j = 3 ∨ j = 4 by omega) with rfl | rfl | rfl | rfl | rfl <;> rfl) (Nat.le_of_ble_eq_true rfl) (Nat.le_of_ble_eq_true rfl) dX9_init_76 (fun q13 H hP hD hS => ?_)
  refine W.widen (k := 21) (n := 522) (Nat.le_of_ble_eq_true rfl) (Nat.le_of_ble_eq_true rfl) ?_
  have hP : va_P G.1 vwCl [(q_t, .inr (8, [.ref q1, .ref q3, .ref q5, .ref q7, .int 0, .ref q9, .ref q11, .null, .null, .null, .null, .null])), (q1, .inr (3, [.ref (u2 1), .int 3])), ((u2 1), .inl (G.2 0, 49, .inl (fun _ => 0))), (q3, .inr (3, [.ref (u4 1), .int 3])), ((u4 1), .inl (G.2 0, 49, .inl (fun _ => 0))), (q5, .inr (3, [.ref (u6 1), .int 3])), ((u6 1), .inl (G.2 0, 49, .inl (fun _ => 0))), (q7, .inr (3, [.ref (u8 1), .int 3])), ((u8 1), .inl (G.2 0, 49, .inl (fun _ => 0))), (q9, .inr (2, [.ref (u10 1), .int 0, .int 0])), ((u10 1), .inl (G.2 4, 4, .inr (.inr (.inr (.inr (st4 (u10 2) (u10 4) (u10 6) (u10 8))))))), ((u10 2), .inr (3, [.ref (u10 3), .int 3])), ((u10 3), .inl (G.2 0, 49, .inl (fun _ => 0))), ((u10 4), .inr (3, [.ref (u10 5), .int 3])), ((u10 5), .inl (G.2 0, 49, .inl (fun _ => 0))), ((u10 6), .inr (3, [.ref (u10 7), .int 3])), ((u10 7), .inl (G.2 0, 49, .inl (fun _ => 0))), ((u10 8), .inr (3, [.ref (u10 9), .int 3])), ((u10 9), .inl (G.2 0, 49, .inl (fun _ => 0))), (q11, .inr (6, [.ref (u12 1), .int 0])), ((u12 1), .inl (G.2 3, 100, .inl (fun _ => 0))), (q13, .inr (7, [.int 0, .int 0, .int 0, .int 0, .int 0]))] H := hP
  have hD : va_D A [(q_t, .inr (8, [.ref q1, .ref q3, .ref q5, .ref q7, .int 0, .ref q9, .ref q11, .null, .null, .null, .null, .null])), (q1, .inr (3, [.ref (u2 1), .int 3])), ((u2 1), .inl (G.2 0, 49, .inl (fun _ => 0))), (q3, .inr (3, [.ref (u4 1), .int 3])), ((u4 1), .inl (G.2 0, 49, .inl (fun _ => 0))), (q5, .inr (3, [.ref (u6 1), .int 3])), ((u6 1), .inl (G.2 0, 49, .inl (fun _ => 0))), (q7, .inr (3, [.ref (u8 1), .int 3])), ((u8 1), .inl (G.2 0, 49, .inl (fun _ => 0))), (q9, .inr (2, [.ref (u10 1), .int 0, .int 0])), ((u10 1), .inl (G.2 4, 4, .inr (.inr (.inr (.inr (st4 (u10 2) (u10 4) (u10 6) (u10 8))))))), ((u10 2), .inr (3, [.ref (u10 3), .int 3])), ((u10 3), .inl (G.2 0, 49, .inl (fun _ => 0))), ((u10 4), .inr (3, [.ref (u10 5), .int 3])), ((u10 5), .inl (G.2 0, 49, .inl (fun _ => 0))), ((u10 6), .inr (3, [.ref (u10 7), .int 3])), ((u10 7), .inl (G.2 0, 49, .inl (fun _ => 0))), ((u10 8), .inr (3, [.ref (u10 9), .int 3])), ((u10 9), .inl (G.2 0, 49, .inl (fun _ => 0))), (q11, .inr (6, [.ref (u12 1), .int 0])), ((u12 1), .inl (G.2 3, 100, .inl (fun _ => 0))), (q13, .inr (7, [.int 0, .int 0, .int 0, .int 0, .int 0]))] := hD
  refine lv_dup hx hb dX9_init_79 rfl ?_
  refine ck_I (rest := [.ref q13, .ref q_t]) ⟨hx, hb, hml, hown, hts⟩ hK hAO hP hD hS hA [21] [0, 1, 2, 3, 4, 5, 6, 7, 8, 9, 10, 11, 12, 13, 14, 15, 16, 17, 18, 19, 20] (c_X8_init l G q13 _) (cwI 0 hts gX9_init_X8_init rfl rfl rfl (hts _ wd_X9_init_22) (hts _ wd_X9_init_63) (hts _ wd_X9_init_64) rfl (by decide +kernel) ⟨Nat.le_of_ble_eq_true rfl, Nat.le_of_ble_eq_true rfl⟩) rfl rfl rfl rfl (by decide) hl.1 rfl (Nat.le_of_ble_eq_true rfl) dX9_init_80 ⟨Nat.le_of_ble_eq_true rfl, Nat.le_of_ble_eq_true rfl⟩ (fun u14 H locs hP hD hS => ?_)
  refine W.widen (k := 21) (n := 522) (Nat.le_of_ble_eq_true rfl) (Nat.le_of_ble_eq_true rfl) ?_
  have hP : va_P G.1 vwCl [(q_t, .inr (8, [.ref q1, .ref q3, .ref q5, .ref q7, .int 0, .ref q9, .ref q11, .null, .null, .null, .null, .null])), (q1, .inr (3, [.ref (u2 1), .int 3])), ((u2 1), .inl (G.2 0, 49, .inl (fun _ => 0))), (q3, .inr (3, [.ref (u4 1), .int 3])), ((u4 1), .inl (G.2 0, 49, .inl (fun _ => 0))), (q5, .inr (3, [.ref (u6 1), .int 3])), ((u6 1), .inl (G.2 0, 49, .inl (fun _ => 0))), (q7, .inr (3, [.ref (u8 1), .int 3])), ((u8 1), .inl (G.2 0, 49, .inl (fun _ => 0))), (q9, .inr (2, [.ref (u10 1), .int 0, .int 0])), ((u10 1), .inl (G.2 4, 4, .inr (.inr (.inr (.inr (st4 (u10 2) (u10 4) (u10 6) (u10 8))))))), ((u10 2), .inr (3, [.ref (u10 3), .int 3])), ((u10 3), .inl (G.2 0, 49, .inl (fun _ => 0))), ((u10 4), .inr (3, [.ref (u10 5), .int 3])), ((u10 5), .inl (G.2 0, 49, .inl (fun _ => 0))), ((u10 6), .inr (3, [.ref (u10 7), .int 3])), ((u10 7), .inl (G.2 0, 49, .inl (fun _ => 0))), ((u10 8), .inr (3, [.ref (u10 9), .int 3])), ((u10 9), .inl (G.2 0, 49, .inl (fun _ => 0))), (q11, .inr (6, [.ref (u12 1), .int 0])), ((u12 1), .inl (G.2 3, 100, .inl (fun _ => 0))), (q13, .inr (7, [.int 0, .int 0, .int 0, .int 0, .int 0]))] H := hP
  have hD : va_D A [(q_t, .inr (8, [.ref q1, .ref q3, .ref q5, .ref q7, .int 0, .ref q9, .ref q11, .null, .null, .null, .null, .null])), (q1, .inr (3, [.ref (u2 1), .int 3])), ((u2 1), .inl (G.2 0, 49, .inl (fun _ => 0))), (q3, .inr (3, [.ref (u4 1), .int 3])), ((u4 1), .inl (G.2 0, 49, .inl (fun _ => 0))), (q5, .inr (3, [.ref (u6 1), .int 3])), ((u6 1), .inl (G.2 0, 49, .inl (fun _ => 0))), (q7, .inr (3, [.ref (u8 1), .int 3])), ((u8 1), .inl (G.2 0, 49, .inl (fun _ => 0))), (q9, .inr (2, [.ref (u10 1), .int 0, .int 0])), ((u10 1), .inl (G.2 4, 4, .inr (.inr (.inr (.inr (st4 (u10 2) (u10 4) (u10 6) (u10 8))))))), ((u10 2), .inr (3, [.ref (u10 3), .int 3])), ((u10 3), .inl (G.2 0, 49, .inl (fun _ => 0))), ((u10 4), .inr (3, [.ref (u10 5), .int 3])), ((u10 5), .inl (G.2 0, 49, .inl (fun _ => 0))), ((u10 6), .inr (3, [.ref (u10 7), .int 3])), ((u10 7), .inl (G.2 0, 49, .inl (fun _ => 0))), ((u10 8), .inr (3, [.ref (u10 9), .int 3])), ((u10 9), .inl (G.2 0, 49, .inl (fun _ => 0))), (q11, .inr (6, [.ref (u12 1), .int 0])), ((u12 1), .inl (G.2 3, 100, .inl (fun _ => 0))), (q13, .inr (7, [.int 0, .int 0, .int 0, .int 0, .int 0]))] := hD
  refine va_putF (D := G.1) (ci := 8) (v := .ref q13) (ty := .object "PermanentDesk$TextReader") (C := RX9) (T := TX9) (N := 12) hx hb hts wi_X9_init_X9 tyX9 tyX9_ok nmX9 hown hK hP hD hS 0 rfl rfl 7 (by decide) (hts _ wd_X9_init_23) (fun _ h9 => h9) rfl hin rfl (by decide +kernel) rfl rfl (Nat.le_of_ble_eq_true rfl) dX9_init_83 (fun H locs hP hD hS => ?_)
  have hP : va_P G.1 vwCl [(q_t, .inr (8, [.ref q1, .ref q3, .ref q5, .ref q7, .int 0, .ref q9, .ref q11, .ref q13, .null, .null, .null, .null])), (q1, .inr (3, [.ref (u2 1), .int 3])), ((u2 1), .inl (G.2 0, 49, .inl (fun _ => 0))), (q3, .inr (3, [.ref (u4 1), .int 3])), ((u4 1), .inl (G.2 0, 49, .inl (fun _ => 0))), (q5, .inr (3, [.ref (u6 1), .int 3])), ((u6 1), .inl (G.2 0, 49, .inl (fun _ => 0))), (q7, .inr (3, [.ref (u8 1), .int 3])), ((u8 1), .inl (G.2 0, 49, .inl (fun _ => 0))), (q9, .inr (2, [.ref (u10 1), .int 0, .int 0])), ((u10 1), .inl (G.2 4, 4, .inr (.inr (.inr (.inr (st4 (u10 2) (u10 4) (u10 6) (u10 8))))))), ((u10 2), .inr (3, [.ref (u10 3), .int 3])), ((u10 3), .inl (G.2 0, 49, .inl (fun _ => 0))), ((u10 4), .inr (3, [.ref (u10 5), .int 3])), ((u10 5), .inl (G.2 0, 49, .inl (fun _ => 0))), ((u10 6), .inr (3, [.ref (u10 7), .int 3])), ((u10 7), .inl (G.2 0, 49, .inl (fun _ => 0))), ((u10 8), .inr (3, [.ref (u10 9), .int 3])), ((u10 9), .inl (G.2 0, 49, .inl (fun _ => 0))), (q11, .inr (6, [.ref (u12 1), .int 0])), ((u12 1), .inl (G.2 3, 100, .inl (fun _ => 0))), (q13, .inr (7, [.int 0, .int 0, .int 0, .int 0, .int 0]))] H := hP
  have hD : va_D A [(q_t, .inr (8, [.ref q1, .ref q3, .ref q5, .ref q7, .int 0, .ref q9, .ref q11, .ref q13, .null, .null, .null, .null])), (q1, .inr (3, [.ref (u2 1), .int 3])), ((u2 1), .inl (G.2 0, 49, .inl (fun _ => 0))), (q3, .inr (3, [.ref (u4 1), .int 3])), ((u4 1), .inl (G.2 0, 49, .inl (fun _ => 0))), (q5, .inr (3, [.ref (u6 1), .int 3])), ((u6 1), .inl (G.2 0, 49, .inl (fun _ => 0))), (q7, .inr (3, [.ref (u8 1), .int 3])), ((u8 1), .inl (G.2 0, 49, .inl (fun _ => 0))), (q9, .inr (2, [.ref (u10 1), .int 0, .int 0])), ((u10 1), .inl (G.2 4, 4, .inr (.inr (.inr (.inr (st4 (u10 2) (u10 4) (u10 6) (u10 8))))))), ((u10 2), .inr (3, [.ref (u10 3), .int 3])), ((u10 3), .inl (G.2 0, 49, .inl (fun _ => 0))), ((u10 4), .inr (3, [.ref (u10 5), .int 3])), ((u10 5), .inl (G.2 0, 49, .inl (fun _ => 0))), ((u10 6), .inr (3, [.ref (u10 7), .int 3])), ((u10 7), .inl (G.2 0, 49, .inl (fun _ => 0))), ((u10 8), .inr (3, [.ref (u10 9), .int 3])), ((u10 9), .inl (G.2 0, 49, .inl (fun _ => 0))), (q11, .inr (6, [.ref (u12 1), .int 0])), ((u12 1), .inl (G.2 3, 100, .inl (fun _ => 0))), (q13, .inr (7, [.int 0, .int 0, .int 0, .int 0, .int 0]))] := hD
  refine lv_aload_n hx hb dX9_init_86 rfl (lv_at hl 0 rfl) ?_
  refine va_new (D := G.1) (ci := 0) (fs := [.null]) (C := RX0) (T := TX0) (N := 1) hx hb hts wi_X9_init_X0 tyX0 tyX0_ok hown (hts _ wd_X9_init_24) (hts _ wd_X9_init_25) (hts _ wd_X9_init_26) hK hP hD hS hA rfl (fun j hj => by rcases (show j = 0 by omega) with rfl <;> rfl) (Nat.le_of_ble_eq_true rfl) (Nat.le_of_ble_eq_true rfl) dX9_init_87 (fun q15 H hP hD hS => ?_)
  refine W.widen (k := 22) (n := 523) (Nat.le_of_ble_eq_true rfl) (Nat.le_of_ble_eq_true rfl) ?_
  have hP : va_P G.1 vwCl [(q_t, .inr (8, [.ref q1, .ref q3, .ref q5, .ref q7, .int 0, .ref q9, .ref q11, .ref q13, .null, .null, .null, .null])), (q1, .inr (3, [.ref (u2 1), .int 3])), ((u2 1), .inl (G.2 0, 49, .inl (fun _ => 0))), (q3, .inr (3, [.ref (u4 1), .int 3])), ((u4 1), .inl (G.2 0, 49, .inl (fun _ => 0))), (q5, .inr (3, [.ref (u6 1), .int 3])), ((u6 1), .inl (G.2 0, 49, .inl (fun _ => 0))), (q7, .inr (3, [.ref (u8 1), .int 3])), ((u8 1), .inl (G.2 0, 49, .inl (fun _ => 0))), (q9, .inr (2, [.ref (u10 1), .int 0, .int 0])), ((u10 1), .inl (G.2 4, 4, .inr (.inr (.inr (.inr (st4 (u10 2) (u10 4) (u10 6) (u10 8))))))), ((u10 2), .inr (3, [.ref (u10 3), .int 3])), ((u10 3), .inl (G.2 0, 49, .inl (fun _ => 0))), ((u10 4), .inr (3, [.ref (u10 5), .int 3])), ((u10 5), .inl (G.2 0, 49, .inl (fun _ => 0))), ((u10 6), .inr (3, [.ref (u10 7), .int 3])), ((u10 7), .inl (G.2 0, 49, .inl (fun _ => 0))), ((u10 8), .inr (3, [.ref (u10 9), .int 3])), ((u10 9), .inl (G.2 0, 49, .inl (fun _ => 0))), (q11, .inr (6, [.ref (u12 1), .int 0])), ((u12 1), .inl (G.2 3, 100, .inl (fun _ => 0))), (q13, .inr (7, [.int 0, .int 0, .int 0, .int 0, .int 0])), (q15, .inr (0, [.null]))] H := hP
  have hD : va_D A [(q_t, .inr (8, [.ref q1, .ref q3, .ref q5, .ref q7, .int 0, .ref q9, .ref q11, .ref q13, .null, .null, .null, .null])), (q1, .inr (3, [.ref (u2 1), .int 3])), ((u2 1), .inl (G.2 0, 49, .inl (fun _ => 0))), (q3, .inr (3, [.ref (u4 1), .int 3])), ((u4 1), .inl (G.2 0, 49, .inl (fun _ => 0))), (q5, .inr (3, [.ref (u6 1), .int 3])), ((u6 1), .inl (G.2 0, 49, .inl (fun _ => 0))), (q7, .inr (3, [.ref (u8 1), .int 3])), ((u8 1), .inl (G.2 0, 49, .inl (fun _ => 0))), (q9, .inr (2, [.ref (u10 1), .int 0, .int 0])), ((u10 1), .inl (G.2 4, 4, .inr (.inr (.inr (.inr (st4 (u10 2) (u10 4) (u10 6) (u10 8))))))), ((u10 2), .inr (3, [.ref (u10 3), .int 3])), ((u10 3), .inl (G.2 0, 49, .inl (fun _ => 0))), ((u10 4), .inr (3, [.ref (u10 5), .int 3])), ((u10 5), .inl (G.2 0, 49, .inl (fun _ => 0))), ((u10 6), .inr (3, [.ref (u10 7), .int 3])), ((u10 7), .inl (G.2 0, 49, .inl (fun _ => 0))), ((u10 8), .inr (3, [.ref (u10 9), .int 3])), ((u10 9), .inl (G.2 0, 49, .inl (fun _ => 0))), (q11, .inr (6, [.ref (u12 1), .int 0])), ((u12 1), .inl (G.2 3, 100, .inl (fun _ => 0))), (q13, .inr (7, [.int 0, .int 0, .int 0, .int 0, .int 0])), (q15, .inr (0, [.null]))] := hD
  refine lv_dup hx hb dX9_init_90 rfl ?_
  refine ck_I (rest := [.ref q15, .ref q_t]) ⟨hx, hb, hml, hown, hts⟩ hK hAO hP hD hS hA [22] [0, 1, 2, 3, 4, 5, 6, 7, 8, 9, 10, 11, 12, 13, 14, 15, 16, 17, 18, 19, 20, 21] (c_X0_init l G q15 _) (cwI 0 hts gX9_init_X0_init rfl rfl rfl (hts _ wd_X9_init_26) (hts _ wd_X9_init_76) (hts _ wd_X9_init_77) rfl (by decide +kernel) ⟨Nat.le_of_ble_eq_true rfl, Nat.le_of_ble_eq_true rfl⟩) rfl rfl rfl rfl (by decide) hl.1 rfl (Nat.le_of_ble_eq_true rfl) dX9_init_91 ⟨Nat.le_of_ble_eq_true rfl, Nat.le_of_ble_eq_true rfl⟩ (fun u16 H locs hP hD hS => ?_)
  refine W.widen (k := 23) (n := 651) (Nat.le_of_ble_eq_true rfl) (Nat.le_of_ble_eq_true rfl) ?_
  have hP : va_P G.1 vwCl [(q_t, .inr (8, [.ref q1, .ref q3, .ref q5, .ref q7, .int 0, .ref q9, .ref q11, .ref q13, .null, .null, .null, .null])), (q1, .inr (3, [.ref (u2 1), .int 3])), ((u2 1), .inl (G.2 0, 49, .inl (fun _ => 0))), (q3, .inr (3, [.ref (u4 1), .int 3])), ((u4 1), .inl (G.2 0, 49, .inl (fun _ => 0))), (q5, .inr (3, [.ref (u6 1), .int 3])), ((u6 1), .inl (G.2 0, 49, .inl (fun _ => 0))), (q7, .inr (3, [.ref (u8 1), .int 3])), ((u8 1), .inl (G.2 0, 49, .inl (fun _ => 0))), (q9, .inr (2, [.ref (u10 1), .int 0, .int 0])), ((u10 1), .inl (G.2 4, 4, .inr (.inr (.inr (.inr (st4 (u10 2) (u10 4) (u10 6) (u10 8))))))), ((u10 2), .inr (3, [.ref (u10 3), .int 3])), ((u10 3), .inl (G.2 0, 49, .inl (fun _ => 0))), ((u10 4), .inr (3, [.ref (u10 5), .int 3])), ((u10 5), .inl (G.2 0, 49, .inl (fun _ => 0))), ((u10 6), .inr (3, [.ref (u10 7), .int 3])), ((u10 7), .inl (G.2 0, 49, .inl (fun _ => 0))), ((u10 8), .inr (3, [.ref (u10 9), .int 3])), ((u10 9), .inl (G.2 0, 49, .inl (fun _ => 0))), (q11, .inr (6, [.ref (u12 1), .int 0])), ((u12 1), .inl (G.2 3, 100, .inl (fun _ => 0))), (q13, .inr (7, [.int 0, .int 0, .int 0, .int 0, .int 0])), (q15, .inr (0, [.ref (u16 1)])), ((u16 1), .inl (G.2 1, 128, .inr (.inl (fun _ => 0))))] H := hP
  have hD : va_D A [(q_t, .inr (8, [.ref q1, .ref q3, .ref q5, .ref q7, .int 0, .ref q9, .ref q11, .ref q13, .null, .null, .null, .null])), (q1, .inr (3, [.ref (u2 1), .int 3])), ((u2 1), .inl (G.2 0, 49, .inl (fun _ => 0))), (q3, .inr (3, [.ref (u4 1), .int 3])), ((u4 1), .inl (G.2 0, 49, .inl (fun _ => 0))), (q5, .inr (3, [.ref (u6 1), .int 3])), ((u6 1), .inl (G.2 0, 49, .inl (fun _ => 0))), (q7, .inr (3, [.ref (u8 1), .int 3])), ((u8 1), .inl (G.2 0, 49, .inl (fun _ => 0))), (q9, .inr (2, [.ref (u10 1), .int 0, .int 0])), ((u10 1), .inl (G.2 4, 4, .inr (.inr (.inr (.inr (st4 (u10 2) (u10 4) (u10 6) (u10 8))))))), ((u10 2), .inr (3, [.ref (u10 3), .int 3])), ((u10 3), .inl (G.2 0, 49, .inl (fun _ => 0))), ((u10 4), .inr (3, [.ref (u10 5), .int 3])), ((u10 5), .inl (G.2 0, 49, .inl (fun _ => 0))), ((u10 6), .inr (3, [.ref (u10 7), .int 3])), ((u10 7), .inl (G.2 0, 49, .inl (fun _ => 0))), ((u10 8), .inr (3, [.ref (u10 9), .int 3])), ((u10 9), .inl (G.2 0, 49, .inl (fun _ => 0))), (q11, .inr (6, [.ref (u12 1), .int 0])), ((u12 1), .inl (G.2 3, 100, .inl (fun _ => 0))), (q13, .inr (7, [.int 0, .int 0, .int 0, .int 0, .int 0])), (q15, .inr (0, [.ref (u16 1)])), ((u16 1), .inl (G.2 1, 128, .inr (.inl (fun _ => 0))))] := hD
  refine va_putF (D := G.1) (ci := 8) (v := .ref q15) (ty := .object "PermanentDesk$ColumnSums") (C := RX9) (T := TX9) (N := 12) hx hb hts wi_X9_init_X9 tyX9 tyX9_ok nmX9 hown hK hP hD hS 0 rfl rfl 8 (by decide) (hts _ wd_X9_init_27) (fun _ h9 => h9) rfl hin rfl (by decide +kernel) rfl rfl (Nat.le_of_ble_eq_true rfl) dX9_init_94 (fun H locs hP hD hS => ?_)
  have hP : va_P G.1 vwCl [(q_t, .inr (8, [.ref q1, .ref q3, .ref q5, .ref q7, .int 0, .ref q9, .ref q11, .ref q13, .ref q15, .null, .null, .null])), (q1, .inr (3, [.ref (u2 1), .int 3])), ((u2 1), .inl (G.2 0, 49, .inl (fun _ => 0))), (q3, .inr (3, [.ref (u4 1), .int 3])), ((u4 1), .inl (G.2 0, 49, .inl (fun _ => 0))), (q5, .inr (3, [.ref (u6 1), .int 3])), ((u6 1), .inl (G.2 0, 49, .inl (fun _ => 0))), (q7, .inr (3, [.ref (u8 1), .int 3])), ((u8 1), .inl (G.2 0, 49, .inl (fun _ => 0))), (q9, .inr (2, [.ref (u10 1), .int 0, .int 0])), ((u10 1), .inl (G.2 4, 4, .inr (.inr (.inr (.inr (st4 (u10 2) (u10 4) (u10 6) (u10 8))))))), ((u10 2), .inr (3, [.ref (u10 3), .int 3])), ((u10 3), .inl (G.2 0, 49, .inl (fun _ => 0))), ((u10 4), .inr (3, [.ref (u10 5), .int 3])), ((u10 5), .inl (G.2 0, 49, .inl (fun _ => 0))), ((u10 6), .inr (3, [.ref (u10 7), .int 3])), ((u10 7), .inl (G.2 0, 49, .inl (fun _ => 0))), ((u10 8), .inr (3, [.ref (u10 9), .int 3])), ((u10 9), .inl (G.2 0, 49, .inl (fun _ => 0))), (q11, .inr (6, [.ref (u12 1), .int 0])), ((u12 1), .inl (G.2 3, 100, .inl (fun _ => 0))), (q13, .inr (7, [.int 0, .int 0, .int 0, .int 0, .int 0])), (q15, .inr (0, [.ref (u16 1)])), ((u16 1), .inl (G.2 1, 128, .inr (.inl (fun _ => 0))))] H := hP
  have hD : va_D A [(q_t, .inr (8, [.ref q1, .ref q3, .ref q5, .ref q7, .int 0, .ref q9, .ref q11, .ref q13, .ref q15, .null, .null, .null])), (q1, .inr (3, [.ref (u2 1), .int 3])), ((u2 1), .inl (G.2 0, 49, .inl (fun _ => 0))), (q3, .inr (3, [.ref (u4 1), .int 3])), ((u4 1), .inl (G.2 0, 49, .inl (fun _ => 0))), (q5, .inr (3, [.ref (u6 1), .int 3])), ((u6 1), .inl (G.2 0, 49, .inl (fun _ => 0))), (q7, .inr (3, [.ref (u8 1), .int 3])), ((u8 1), .inl (G.2 0, 49, .inl (fun _ => 0))), (q9, .inr (2, [.ref (u10 1), .int 0, .int 0])), ((u10 1), .inl (G.2 4, 4, .inr (.inr (.inr (.inr (st4 (u10 2) (u10 4) (u10 6) (u10 8))))))), ((u10 2), .inr (3, [.ref (u10 3), .int 3])), ((u10 3), .inl (G.2 0, 49, .inl (fun _ => 0))), ((u10 4), .inr (3, [.ref (u10 5), .int 3])), ((u10 5), .inl (G.2 0, 49, .inl (fun _ => 0))), ((u10 6), .inr (3, [.ref (u10 7), .int 3])), ((u10 7), .inl (G.2 0, 49, .inl (fun _ => 0))), ((u10 8), .inr (3, [.ref (u10 9), .int 3])), ((u10 9), .inl (G.2 0, 49, .inl (fun _ => 0))), (q11, .inr (6, [.ref (u12 1), .int 0])), ((u12 1), .inl (G.2 3, 100, .inl (fun _ => 0))), (q13, .inr (7, [.int 0, .int 0, .int 0, .int 0, .int 0])), (q15, .inr (0, [.ref (u16 1)])), ((u16 1), .inl (G.2 1, 128, .inr (.inl (fun _ => 0))))] := hD
  refine lv_aload_n hx hb dX9_init_97 rfl (lv_at hl 0 rfl) ?_
  refine va_new (D := G.1) (ci := 1) (fs := [.null]) (C := RX2) (T := TX2) (N := 1) hx hb hts wi_X9_init_X2 tyX2 tyX2_ok hown (hts _ wd_X9_init_28) (hts _ wd_X9_init_29) (hts _ wd_X9_init_30) hK hP hD hS hA rfl (fun j hj => by rcases (show j = 0 by omega) with rfl <;> rfl) (Nat.le_of_ble_eq_true rfl) (Nat.le_of_ble_eq_true rfl) dX9_init_98 (fun q17 H hP hD hS => ?_)
  refine W.widen (k := 24) (n := 652) (Nat.le_of_ble_eq_true rfl) (Nat.le_of_ble_eq_true rfl) ?_
  have hP : va_P G.1 vwCl [(q_t, .inr (8, [.ref q1, .ref q3, .ref q5, .ref q7, .int 0, .ref q9, .ref q11, .ref q13, .ref q15, .null, .null, .null])), (q1, .inr (3, [.ref (u2 1), .int 3])), ((u2 1), .inl (G.2 0, 49, .inl (fun _ => 0))), (q3, .inr (3, [.ref (u4 1), .int 3])), ((u4 1), .inl (G.2 0, 49, .inl (fun _ => 0))), (q5, .inr (3, [.ref (u6 1), .int 3])), ((u6 1), .inl (G.2 0, 49, .inl (fun _ => 0))), (q7, .inr (3, [.ref (u8 1), .int 3])), ((u8 1), .inl (G.2 0, 49, .inl (fun _ => 0))), (q9, .inr (2, [.ref (u10 1), .int 0, .int 0])), ((u10 1), .inl (G.2 4, 4, .inr (.inr (.inr (.inr (st4 (u10 2) (u10 4) (u10 6) (u10 8))))))), ((u10 2), .inr (3, [.ref (u10 3), .int 3])), ((u10 3), .inl (G.2 0, 49, .inl (fun _ => 0))), ((u10 4), .inr (3, [.ref (u10 5), .int 3])), ((u10 5), .inl (G.2 0, 49, .inl (fun _ => 0))), ((u10 6), .inr (3, [.ref (u10 7), .int 3])), ((u10 7), .inl (G.2 0, 49, .inl (fun _ => 0))), ((u10 8), .inr (3, [.ref (u10 9), .int 3])), ((u10 9), .inl (G.2 0, 49, .inl (fun _ => 0))), (q11, .inr (6, [.ref (u12 1), .int 0])), ((u12 1), .inl (G.2 3, 100, .inl (fun _ => 0))), (q13, .inr (7, [.int 0, .int 0, .int 0, .int 0, .int 0])), (q15, .inr (0, [.ref (u16 1)])), ((u16 1), .inl (G.2 1, 128, .inr (.inl (fun _ => 0)))), (q17, .inr (1, [.null]))] H := hP
  have hD : va_D A [(q_t, .inr (8, [.ref q1, .ref q3, .ref q5, .ref q7, .int 0, .ref q9, .ref q11, .ref q13, .ref q15, .null, .null, .null])), (q1, .inr (3, [.ref (u2 1), .int 3])), ((u2 1), .inl (G.2 0, 49, .inl (fun _ => 0))), (q3, .inr (3, [.ref (u4 1), .int 3])), ((u4 1), .inl (G.2 0, 49, .inl (fun _ => 0))), (q5, .inr (3, [.ref (u6 1), .int 3])), ((u6 1), .inl (G.2 0, 49, .inl (fun _ => 0))), (q7, .inr (3, [.ref (u8 1), .int 3])), ((u8 1), .inl (G.2 0, 49, .inl (fun _ => 0))), (q9, .inr (2, [.ref (u10 1), .int 0, .int 0])), ((u10 1), .inl (G.2 4, 4, .inr (.inr (.inr (.inr (st4 (u10 2) (u10 4) (u10 6) (u10 8))))))), ((u10 2), .inr (3, [.ref (u10 3), .int 3])), ((u10 3), .inl (G.2 0, 49, .inl (fun _ => 0))), ((u10 4), .inr (3, [.ref (u10 5), .int 3])), ((u10 5), .inl (G.2 0, 49, .inl (fun _ => 0))), ((u10 6), .inr (3, [.ref (u10 7), .int 3])), ((u10 7), .inl (G.2 0, 49, .inl (fun _ => 0))), ((u10 8), .inr (3, [.ref (u10 9), .int 3])), ((u10 9), .inl (G.2 0, 49, .inl (fun _ => 0))), (q11, .inr (6, [.ref (u12 1), .int 0])), ((u12 1), .inl (G.2 3, 100, .inl (fun _ => 0))), (q13, .inr (7, [.int 0, .int 0, .int 0, .int 0, .int 0])), (q15, .inr (0, [.ref (u16 1)])), ((u16 1), .inl (G.2 1, 128, .inr (.inl (fun _ => 0)))), (q17, .inr (1, [.null]))] := hD
  refine lv_dup hx hb dX9_init_101 rfl ?_
  refine ck_I (rest := [.ref q17, .ref q_t]) ⟨hx, hb, hml, hown, hts⟩ hK hAO hP hD hS hA [24] [0, 1, 2, 3, 4, 5, 6, 7, 8, 9, 10, 11, 12, 13, 14, 15, 16, 17, 18, 19, 20, 21, 22, 23] (c_X2_init l G q17 _) (cwI 0 hts gX9_init_X2_init rfl rfl rfl (hts _ wd_X9_init_30) (hts _ wd_X9_init_82) (hts _ wd_X9_init_83) rfl (by decide +kernel) ⟨Nat.le_of_ble_eq_true rfl, Nat.le_of_ble_eq_true rfl⟩) rfl rfl rfl rfl (by decide) hl.1 rfl (Nat.le_of_ble_eq_true rfl) dX9_init_102 ⟨Nat.le_of_ble_eq_true rfl, Nat.le_of_ble_eq_true rfl⟩ (fun u18 H locs hP hD hS => ?_)
  refine W.widen (k := 25) (n := 780) (Nat.le_of_ble_eq_true rfl) (Nat.le_of_ble_eq_true rfl) ?_
  have hP : va_P G.1 vwCl [(q_t, .inr (8, [.ref q1, .ref q3, .ref q5, .ref q7, .int 0, .ref q9, .ref q11, .ref q13, .ref q15, .null, .null, .null])), (q1, .inr (3, [.ref (u2 1), .int 3])), ((u2 1), .inl (G.2 0, 49, .inl (fun _ => 0))), (q3, .inr (3, [.ref (u4 1), .int 3])), ((u4 1), .inl (G.2 0, 49, .inl (fun _ => 0))), (q5, .inr (3, [.ref (u6 1), .int 3])), ((u6 1), .inl (G.2 0, 49, .inl (fun _ => 0))), (q7, .inr (3, [.ref (u8 1), .int 3])), ((u8 1), .inl (G.2 0, 49, .inl (fun _ => 0))), (q9, .inr (2, [.ref (u10 1), .int 0, .int 0])), ((u10 1), .inl (G.2 4, 4, .inr (.inr (.inr (.inr (st4 (u10 2) (u10 4) (u10 6) (u10 8))))))), ((u10 2), .inr (3, [.ref (u10 3), .int 3])), ((u10 3), .inl (G.2 0, 49, .inl (fun _ => 0))), ((u10 4), .inr (3, [.ref (u10 5), .int 3])), ((u10 5), .inl (G.2 0, 49, .inl (fun _ => 0))), ((u10 6), .inr (3, [.ref (u10 7), .int 3])), ((u10 7), .inl (G.2 0, 49, .inl (fun _ => 0))), ((u10 8), .inr (3, [.ref (u10 9), .int 3])), ((u10 9), .inl (G.2 0, 49, .inl (fun _ => 0))), (q11, .inr (6, [.ref (u12 1), .int 0])), ((u12 1), .inl (G.2 3, 100, .inl (fun _ => 0))), (q13, .inr (7, [.int 0, .int 0, .int 0, .int 0, .int 0])), (q15, .inr (0, [.ref (u16 1)])), ((u16 1), .inl (G.2 1, 128, .inr (.inl (fun _ => 0)))), (q17, .inr (1, [.ref (u18 1)])), ((u18 1), .inl (G.2 0, 128, .inl (fun _ => 0)))] H := hP
  have hD : va_D A [(q_t, .inr (8, [.ref q1, .ref q3, .ref q5, .ref q7, .int 0, .ref q9, .ref q11, .ref q13, .ref q15, .null, .null, .null])), (q1, .inr (3, [.ref (u2 1), .int 3])), ((u2 1), .inl (G.2 0, 49, .inl (fun _ => 0))), (q3, .inr (3, [.ref (u4 1), .int 3])), ((u4 1), .inl (G.2 0, 49, .inl (fun _ => 0))), (q5, .inr (3, [.ref (u6 1), .int 3])), ((u6 1), .inl (G.2 0, 49, .inl (fun _ => 0))), (q7, .inr (3, [.ref (u8 1), .int 3])), ((u8 1), .inl (G.2 0, 49, .inl (fun _ => 0))), (q9, .inr (2, [.ref (u10 1), .int 0, .int 0])), ((u10 1), .inl (G.2 4, 4, .inr (.inr (.inr (.inr (st4 (u10 2) (u10 4) (u10 6) (u10 8))))))), ((u10 2), .inr (3, [.ref (u10 3), .int 3])), ((u10 3), .inl (G.2 0, 49, .inl (fun _ => 0))), ((u10 4), .inr (3, [.ref (u10 5), .int 3])), ((u10 5), .inl (G.2 0, 49, .inl (fun _ => 0))), ((u10 6), .inr (3, [.ref (u10 7), .int 3])), ((u10 7), .inl (G.2 0, 49, .inl (fun _ => 0))), ((u10 8), .inr (3, [.ref (u10 9), .int 3])), ((u10 9), .inl (G.2 0, 49, .inl (fun _ => 0))), (q11, .inr (6, [.ref (u12 1), .int 0])), ((u12 1), .inl (G.2 3, 100, .inl (fun _ => 0))), (q13, .inr (7, [.int 0, .int 0, .int 0, .int 0, .int 0])), (q15, .inr (0, [.ref (u16 1)])), ((u16 1), .inl (G.2 1, 128, .inr (.inl (fun _ => 0)))), (q17, .inr (1, [.ref (u18 1)])), ((u18 1), .inl (G.2 0, 128, .inl (fun _ => 0)))] := hD
  refine va_putF (D := G.1) (ci := 8) (v := .ref q17) (ty := .object "PermanentDesk$Endings") (C := RX9) (T := TX9) (N := 12) hx hb hts wi_X9_init_X9 tyX9 tyX9_ok nmX9 hown hK hP hD hS 0 rfl rfl 9 (by decide) (hts _ wd_X9_init_31) (fun _ h9 => h9) rfl hin rfl (by decide +kernel) rfl rfl (Nat.le_of_ble_eq_true rfl) dX9_init_105 (fun H locs hP hD hS => ?_)
  have hP : va_P G.1 vwCl [(q_t, .inr (8, [.ref q1, .ref q3, .ref q5, .ref q7, .int 0, .ref q9, .ref q11, .ref q13, .ref q15, .ref q17, .null, .null])), (q1, .inr (3, [.ref (u2 1), .int 3])), ((u2 1), .inl (G.2 0, 49, .inl (fun _ => 0))), (q3, .inr (3, [.ref (u4 1), .int 3])), ((u4 1), .inl (G.2 0, 49, .inl (fun _ => 0))), (q5, .inr (3, [.ref (u6 1), .int 3])), ((u6 1), .inl (G.2 0, 49, .inl (fun _ => 0))), (q7, .inr (3, [.ref (u8 1), .int 3])), ((u8 1), .inl (G.2 0, 49, .inl (fun _ => 0))), (q9, .inr (2, [.ref (u10 1), .int 0, .int 0])), ((u10 1), .inl (G.2 4, 4, .inr (.inr (.inr (.inr (st4 (u10 2) (u10 4) (u10 6) (u10 8))))))), ((u10 2), .inr (3, [.ref (u10 3), .int 3])), ((u10 3), .inl (G.2 0, 49, .inl (fun _ => 0))), ((u10 4), .inr (3, [.ref (u10 5), .int 3])), ((u10 5), .inl (G.2 0, 49, .inl (fun _ => 0))), ((u10 6), .inr (3, [.ref (u10 7), .int 3])), ((u10 7), .inl (G.2 0, 49, .inl (fun _ => 0))), ((u10 8), .inr (3, [.ref (u10 9), .int 3])), ((u10 9), .inl (G.2 0, 49, .inl (fun _ => 0))), (q11, .inr (6, [.ref (u12 1), .int 0])), ((u12 1), .inl (G.2 3, 100, .inl (fun _ => 0))), (q13, .inr (7, [.int 0, .int 0, .int 0, .int 0, .int 0])), (q15, .inr (0, [.ref (u16 1)])), ((u16 1), .inl (G.2 1, 128, .inr (.inl (fun _ => 0)))), (q17, .inr (1, [.ref (u18 1)])), ((u18 1), .inl (G.2 0, 128, .inl (fun _ => 0)))] H := hP
  have hD : va_D A [(q_t, .inr (8, [.ref q1, .ref q3, .ref q5, .ref q7, .int 0, .ref q9, .ref q11, .ref q13, .ref q15, .ref q17, .null, .null])), (q1, .inr (3, [.ref (u2 1), .int 3])), ((u2 1), .inl (G.2 0, 49, .inl (fun _ => 0))), (q3, .inr (3, [.ref (u4 1), .int 3])), ((u4 1), .inl (G.2 0, 49, .inl (fun _ => 0))), (q5, .inr (3, [.ref (u6 1), .int 3])), ((u6 1), .inl (G.2 0, 49, .inl (fun _ => 0))), (q7, .inr (3, [.ref (u8 1), .int 3])), ((u8 1), .inl (G.2 0, 49, .inl (fun _ => 0))), (q9, .inr (2, [.ref (u10 1), .int 0, .int 0])), ((u10 1), .inl (G.2 4, 4, .inr (.inr (.inr (.inr (st4 (u10 2) (u10 4) (u10 6) (u10 8))))))), ((u10 2), .inr (3, [.ref (u10 3), .int 3])), ((u10 3), .inl (G.2 0, 49, .inl (fun _ => 0))), ((u10 4), .inr (3, [.ref (u10 5), .int 3])), ((u10 5), .inl (G.2 0, 49, .inl (fun _ => 0))), ((u10 6), .inr (3, [.ref (u10 7), .int 3])), ((u10 7), .inl (G.2 0, 49, .inl (fun _ => 0))), ((u10 8), .inr (3, [.ref (u10 9), .int 3])), ((u10 9), .inl (G.2 0, 49, .inl (fun _ => 0))), (q11, .inr (6, [.ref (u12 1), .int 0])), ((u12 1), .inl (G.2 3, 100, .inl (fun _ => 0))), (q13, .inr (7, [.int 0, .int 0, .int 0, .int 0, .int 0])), (q15, .inr (0, [.ref (u16 1)])), ((u16 1), .inl (G.2 1, 128, .inr (.inl (fun _ => 0)))), (q17, .inr (1, [.ref (u18 1)])), ((u18 1), .inl (G.2 0, 128, .inl (fun _ => 0)))] := hD
  refine lv_aload_n hx hb dX9_init_108 rfl (lv_at hl 0 rfl) ?_
  refine va_new (D := G.1) (ci := 4) (fs := [.null, .null, .null, .int 0]) (C := RX5) (T := TX5) (N := 4) hx hb hts wi_X9_init_X5 tyX5 tyX5_ok hown (hts _ wd_X9_init_32) (hts _ wd_X9_init_33) (hts _ wd_X9_init_34) hK hP hD hS hA rfl (fun j hj => by rcases (show j = 0 ∨ j = 1 ∨ j = 2 ∨ j = 3 by omega) with rfl | rfl | rfl | rfl <;> rfl) (Nat.le_of_ble_eq_true rfl) (Nat.le_of_ble_eq_true rfl) dX9_init_109 (fun q19 H hP hD hS => ?_)
  refine W.widen (k := 26) (n := 784) (Nat.le_of_ble_eq_true rfl) (Nat.le_of_ble_eq_true rfl) ?_
  have hP : va_P G.1 vwCl [(q_t, .inr (8, [.ref q1, .ref q3, .ref q5, .ref q7, .int 0, .ref q9, .ref q11, .ref q13, .ref q15, .ref q17, .null, .null])), (q1, .inr (3, [.ref (u2 1), .int 3])), ((u2 1), .inl (G.2 0, 49, .inl (fun _ => 0))), (q3, .inr (3, [.ref (u4 1), .int 3])), ((u4 1), .inl (G.2 0, 49, .inl (fun _ => 0))), (q5, .inr (3, [.ref (u6 1), .int 3])), ((u6 1), .inl (G.2 0, 49, .inl (fun _ => 0))), (q7, .inr (3, [.ref (u8 1), .int 3])), ((u8 1), .inl (G.2 0, 49, .inl (fun _ => 0))), (q9, .inr (2, [.ref (u10 1), .int 0, .int 0])), ((u10 1), .inl (G.2 4, 4, .inr (.inr (.inr (.inr (st4 (u10 2) (u10 4) (u10 6) (u10 8))))))), ((u10 2), .inr (3, [.ref (u10 3), .int 3])), ((u10 3), .inl (G.2 0, 49, .inl (fun _ => 0))), ((u10 4), .inr (3, [.ref (u10 5), .int 3])), ((u10 5), .inl (G.2 0, 49, .inl (fun _ => 0))), ((u10 6), .inr (3, [.ref (u10 7), .int 3])), ((u10 7), .inl (G.2 0, 49, .inl (fun _ => 0))), ((u10 8), .inr (3, [.ref (u10 9), .int 3])), ((u10 9), .inl (G.2 0, 49, .inl (fun _ => 0))), (q11, .inr (6, [.ref (u12 1), .int 0])), ((u12 1), .inl (G.2 3, 100, .inl (fun _ => 0))), (q13, .inr (7, [.int 0, .int 0, .int 0, .int 0, .int 0])), (q15, .inr (0, [.ref (u16 1)])), ((u16 1), .inl (G.2 1, 128, .inr (.inl (fun _ => 0)))), (q17, .inr (1, [.ref (u18 1)])), ((u18 1), .inl (G.2 0, 128, .inl (fun _ => 0))), (q19, .inr (4, [.null, .null, .null, .int 0]))] H := hP
  have hD : va_D A [(q_t, .inr (8, [.ref q1, .ref q3, .ref q5, .ref q7, .int 0, .ref q9, .ref q11, .ref q13, .ref q15, .ref q17, .null, .null])), (q1, .inr (3, [.ref (u2 1), .int 3])), ((u2 1), .inl (G.2 0, 49, .inl (fun _ => 0))), (q3, .inr (3, [.ref (u4 1), .int 3])), ((u4 1), .inl (G.2 0, 49, .inl (fun _ => 0))), (q5, .inr (3, [.ref (u6 1), .int 3])), ((u6 1), .inl (G.2 0, 49, .inl (fun _ => 0))), (q7, .inr (3, [.ref (u8 1), .int 3])), ((u8 1), .inl (G.2 0, 49, .inl (fun _ => 0))), (q9, .inr (2, [.ref (u10 1), .int 0, .int 0])), ((u10 1), .inl (G.2 4, 4, .inr (.inr (.inr (.inr (st4 (u10 2) (u10 4) (u10 6) (u10 8))))))), ((u10 2), .inr (3, [.ref (u10 3), .int 3])), ((u10 3), .inl (G.2 0, 49, .inl (fun _ => 0))), ((u10 4), .inr (3, [.ref (u10 5), .int 3])), ((u10 5), .inl (G.2 0, 49, .inl (fun _ => 0))), ((u10 6), .inr (3, [.ref (u10 7), .int 3])), ((u10 7), .inl (G.2 0, 49, .inl (fun _ => 0))), ((u10 8), .inr (3, [.ref (u10 9), .int 3])), ((u10 9), .inl (G.2 0, 49, .inl (fun _ => 0))), (q11, .inr (6, [.ref (u12 1), .int 0])), ((u12 1), .inl (G.2 3, 100, .inl (fun _ => 0))), (q13, .inr (7, [.int 0, .int 0, .int 0, .int 0, .int 0])), (q15, .inr (0, [.ref (u16 1)])), ((u16 1), .inl (G.2 1, 128, .inr (.inl (fun _ => 0)))), (q17, .inr (1, [.ref (u18 1)])), ((u18 1), .inl (G.2 0, 128, .inl (fun _ => 0))), (q19, .inr (4, [.null, .null, .null, .int 0]))] := hD
  refine lv_dup hx hb dX9_init_112 rfl ?_
  refine ck_I (rest := [.ref q19, .ref q_t]) ⟨hx, hb, hml, hown, hts⟩ hK hAO hP hD hS hA [26] [0, 1, 2, 3, 4, 5, 6, 7, 8, 9, 10, 11, 12, 13, 14, 15, 16, 17, 18, 19, 20, 21, 22, 23, 24, 25] (c_X5_init l G q19 _) (cwI 0 hts gX9_init_X5_init rfl rfl rfl (hts _ wd_X9_init_34) (hts _ wd_X9_init_87) (hts _ wd_X9_init_88) rfl (by decide +kernel) ⟨Nat.le_of_ble_eq_true rfl, Nat.le_of_ble_eq_true rfl⟩) rfl rfl rfl rfl (by decide) hl.1 rfl (Nat.le_of_ble_eq_true rfl) dX9_init_113 ⟨Nat.le_of_ble_eq_true rfl, Nat.le_of_ble_eq_true rfl⟩ (fun u20 H locs hP hD hS => ?_)
  refine W.widen (k := 29) (n := 847) (Nat.le_of_ble_eq_true rfl) (Nat.le_of_ble_eq_true rfl) ?_
  have hP : va_P G.1 vwCl [(q_t, .inr (8, [.ref q1, .ref q3, .ref q5, .ref q7, .int 0, .ref q9, .ref q11, .ref q13, .ref q15, .ref q17, .null, .null])), (q1, .inr (3, [.ref (u2 1), .int 3])), ((u2 1), .inl (G.2 0, 49, .inl (fun _ => 0))), (q3, .inr (3, [.ref (u4 1), .int 3])), ((u4 1), .inl (G.2 0, 49, .inl (fun _ => 0))), (q5, .inr (3, [.ref (u6 1), .int 3])), ((u6 1), .inl (G.2 0, 49, .inl (fun _ => 0))), (q7, .inr (3, [.ref (u8 1), .int 3])), ((u8 1), .inl (G.2 0, 49, .inl (fun _ => 0))), (q9, .inr (2, [.ref (u10 1), .int 0, .int 0])), ((u10 1), .inl (G.2 4, 4, .inr (.inr (.inr (.inr (st4 (u10 2) (u10 4) (u10 6) (u10 8))))))), ((u10 2), .inr (3, [.ref (u10 3), .int 3])), ((u10 3), .inl (G.2 0, 49, .inl (fun _ => 0))), ((u10 4), .inr (3, [.ref (u10 5), .int 3])), ((u10 5), .inl (G.2 0, 49, .inl (fun _ => 0))), ((u10 6), .inr (3, [.ref (u10 7), .int 3])), ((u10 7), .inl (G.2 0, 49, .inl (fun _ => 0))), ((u10 8), .inr (3, [.ref (u10 9), .int 3])), ((u10 9), .inl (G.2 0, 49, .inl (fun _ => 0))), (q11, .inr (6, [.ref (u12 1), .int 0])), ((u12 1), .inl (G.2 3, 100, .inl (fun _ => 0))), (q13, .inr (7, [.int 0, .int 0, .int 0, .int 0, .int 0])), (q15, .inr (0, [.ref (u16 1)])), ((u16 1), .inl (G.2 1, 128, .inr (.inl (fun _ => 0)))), (q17, .inr (1, [.ref (u18 1)])), ((u18 1), .inl (G.2 0, 128, .inl (fun _ => 0))), (q19, .inr (4, [.ref (u20 1), .ref (u20 2), .ref (u20 3), .int 0])), ((u20 1), .inl (G.2 2, 49, .inr (.inr (.inr (.inl (fun _ => 0)))))), ((u20 2), .inl (G.2 2, 7, .inr (.inr (.inr (.inl (fun _ => 0)))))), ((u20 3), .inl (G.2 2, 7, .inr (.inr (.inr (.inl (fun _ => 0))))))] H := hP
  have hD : va_D A [(q_t, .inr (8, [.ref q1, .ref q3, .ref q5, .ref q7, .int 0, .ref q9, .ref q11, .ref q13, .ref q15, .ref q17, .null, .null])), (q1, .inr (3, [.ref (u2 1), .int 3])), ((u2 1), .inl (G.2 0, 49, .inl (fun _ => 0))), (q3, .inr (3, [.ref (u4 1), .int 3])), ((u4 1), .inl (G.2 0, 49, .inl (fun _ => 0))), (q5, .inr (3, [.ref (u6 1), .int 3])), ((u6 1), .inl (G.2 0, 49, .inl (fun _ => 0))), (q7, .inr (3, [.ref (u8 1), .int 3])), ((u8 1), .inl (G.2 0, 49, .inl (fun _ => 0))), (q9, .inr (2, [.ref (u10 1), .int 0, .int 0])), ((u10 1), .inl (G.2 4, 4, .inr (.inr (.inr (.inr (st4 (u10 2) (u10 4) (u10 6) (u10 8))))))), ((u10 2), .inr (3, [.ref (u10 3), .int 3])), ((u10 3), .inl (G.2 0, 49, .inl (fun _ => 0))), ((u10 4), .inr (3, [.ref (u10 5), .int 3])), ((u10 5), .inl (G.2 0, 49, .inl (fun _ => 0))), ((u10 6), .inr (3, [.ref (u10 7), .int 3])), ((u10 7), .inl (G.2 0, 49, .inl (fun _ => 0))), ((u10 8), .inr (3, [.ref (u10 9), .int 3])), ((u10 9), .inl (G.2 0, 49, .inl (fun _ => 0))), (q11, .inr (6, [.ref (u12 1), .int 0])), ((u12 1), .inl (G.2 3, 100, .inl (fun _ => 0))), (q13, .inr (7, [.int 0, .int 0, .int 0, .int 0, .int 0])), (q15, .inr (0, [.ref (u16 1)])), ((u16 1), .inl (G.2 1, 128, .inr (.inl (fun _ => 0)))), (q17, .inr (1, [.ref (u18 1)])), ((u18 1), .inl (G.2 0, 128, .inl (fun _ => 0))), (q19, .inr (4, [.ref (u20 1), .ref (u20 2), .ref (u20 3), .int 0])), ((u20 1), .inl (G.2 2, 49, .inr (.inr (.inr (.inl (fun _ => 0)))))), ((u20 2), .inl (G.2 2, 7, .inr (.inr (.inr (.inl (fun _ => 0)))))), ((u20 3), .inl (G.2 2, 7, .inr (.inr (.inr (.inl (fun _ => 0))))))] := hD
  refine va_putF (D := G.1) (ci := 8) (v := .ref q19) (ty := .object "PermanentDesk$Scaling") (C := RX9) (T := TX9) (N := 12) hx hb hts wi_X9_init_X9 tyX9 tyX9_ok nmX9 hown hK hP hD hS 0 rfl rfl 10 (by decide) (hts _ wd_X9_init_35) (fun _ h9 => h9) rfl hin rfl (by decide +kernel) rfl rfl (Nat.le_of_ble_eq_true rfl) dX9_init_116 (fun H locs hP hD hS => ?_)
  have hP : va_P G.1 vwCl [(q_t, .inr (8, [.ref q1, .ref q3, .ref q5, .ref q7, .int 0, .ref q9, .ref q11, .ref q13, .ref q15, .ref q17, .ref q19, .null])), (q1, .inr (3, [.ref (u2 1), .int 3])), ((u2 1), .inl (G.2 0, 49, .inl (fun _ => 0))), (q3, .inr (3, [.ref (u4 1), .int 3])), ((u4 1), .inl (G.2 0, 49, .inl (fun _ => 0))), (q5, .inr (3, [.ref (u6 1), .int 3])), ((u6 1), .inl (G.2 0, 49, .inl (fun _ => 0))), (q7, .inr (3, [.ref (u8 1), .int 3])), ((u8 1), .inl (G.2 0, 49, .inl (fun _ => 0))), (q9, .inr (2, [.ref (u10 1), .int 0, .int 0])), ((u10 1), .inl (G.2 4, 4, .inr (.inr (.inr (.inr (st4 (u10 2) (u10 4) (u10 6) (u10 8))))))), ((u10 2), .inr (3, [.ref (u10 3), .int 3])), ((u10 3), .inl (G.2 0, 49, .inl (fun _ => 0))), ((u10 4), .inr (3, [.ref (u10 5), .int 3])), ((u10 5), .inl (G.2 0, 49, .inl (fun _ => 0))), ((u10 6), .inr (3, [.ref (u10 7), .int 3])), ((u10 7), .inl (G.2 0, 49, .inl (fun _ => 0))), ((u10 8), .inr (3, [.ref (u10 9), .int 3])), ((u10 9), .inl (G.2 0, 49, .inl (fun _ => 0))), (q11, .inr (6, [.ref (u12 1), .int 0])), ((u12 1), .inl (G.2 3, 100, .inl (fun _ => 0))), (q13, .inr (7, [.int 0, .int 0, .int 0, .int 0, .int 0])), (q15, .inr (0, [.ref (u16 1)])), ((u16 1), .inl (G.2 1, 128, .inr (.inl (fun _ => 0)))), (q17, .inr (1, [.ref (u18 1)])), ((u18 1), .inl (G.2 0, 128, .inl (fun _ => 0))), (q19, .inr (4, [.ref (u20 1), .ref (u20 2), .ref (u20 3), .int 0])), ((u20 1), .inl (G.2 2, 49, .inr (.inr (.inr (.inl (fun _ => 0)))))), ((u20 2), .inl (G.2 2, 7, .inr (.inr (.inr (.inl (fun _ => 0)))))), ((u20 3), .inl (G.2 2, 7, .inr (.inr (.inr (.inl (fun _ => 0))))))] H := hP
  have hD : va_D A [(q_t, .inr (8, [.ref q1, .ref q3, .ref q5, .ref q7, .int 0, .ref q9, .ref q11, .ref q13, .ref q15, .ref q17, .ref q19, .null])), (q1, .inr (3, [.ref (u2 1), .int 3])), ((u2 1), .inl (G.2 0, 49, .inl (fun _ => 0))), (q3, .inr (3, [.ref (u4 1), .int 3])), ((u4 1), .inl (G.2 0, 49, .inl (fun _ => 0))), (q5, .inr (3, [.ref (u6 1), .int 3])), ((u6 1), .inl (G.2 0, 49, .inl (fun _ => 0))), (q7, .inr (3, [.ref (u8 1), .int 3])), ((u8 1), .inl (G.2 0, 49, .inl (fun _ => 0))), (q9, .inr (2, [.ref (u10 1), .int 0, .int 0])), ((u10 1), .inl (G.2 4, 4, .inr (.inr (.inr (.inr (st4 (u10 2) (u10 4) (u10 6) (u10 8))))))), ((u10 2), .inr (3, [.ref (u10 3), .int 3])), ((u10 3), .inl (G.2 0, 49, .inl (fun _ => 0))), ((u10 4), .inr (3, [.ref (u10 5), .int 3])), ((u10 5), .inl (G.2 0, 49, .inl (fun _ => 0))), ((u10 6), .inr (3, [.ref (u10 7), .int 3])), ((u10 7), .inl (G.2 0, 49, .inl (fun _ => 0))), ((u10 8), .inr (3, [.ref (u10 9), .int 3])), ((u10 9), .inl (G.2 0, 49, .inl (fun _ => 0))), (q11, .inr (6, [.ref (u12 1), .int 0])), ((u12 1), .inl (G.2 3, 100, .inl (fun _ => 0))), (q13, .inr (7, [.int 0, .int 0, .int 0, .int 0, .int 0])), (q15, .inr (0, [.ref (u16 1)])), ((u16 1), .inl (G.2 1, 128, .inr (.inl (fun _ => 0)))), (q17, .inr (1, [.ref (u18 1)])), ((u18 1), .inl (G.2 0, 128, .inl (fun _ => 0))), (q19, .inr (4, [.ref (u20 1), .ref (u20 2), .ref (u20 3), .int 0])), ((u20 1), .inl (G.2 2, 49, .inr (.inr (.inr (.inl (fun _ => 0)))))), ((u20 2), .inl (G.2 2, 7, .inr (.inr (.inr (.inl (fun _ => 0)))))), ((u20 3), .inl (G.2 2, 7, .inr (.inr (.inr (.inl (fun _ => 0))))))] := hD
  refine lv_aload_n hx hb dX9_init_119 rfl (lv_at hl 0 rfl) ?_
  refine va_new (D := G.1) (ci := 5) (fs := [.null, .null, .null, .null, .int 0]) (C := RX6) (T := TX6) (N := 5) hx hb hts wi_X9_init_X6 tyX6 tyX6_ok hown (hts _ wd_X9_init_36) (hts _ wd_X9_init_37) (hts _ wd_X9_init_38) hK hP hD hS hA rfl (fun j hj => by rcases (show j = 0 ∨ j = 1 ∨ j = 2 ∨ j = 3 ∨ j = 4 by omega) with rfl | rfl | rfl | rfl | rfl <;> rfl) (Nat.le_of_ble_eq_true rfl) (Nat.le_of_ble_eq_true rfl) dX9_init_120 (fun q21 H hP hD hS => ?_)
  refine W.widen (k := 30) (n := 852) (Nat.le_of_ble_eq_true rfl) (Nat.le_of_ble_eq_true rfl) ?_
  have hP : va_P G.1 vwCl [(q_t, .inr (8, [.ref q1, .ref q3, .ref q5, .ref q7, .int 0, .ref q9, .ref q11, .ref q13, .ref q15, .ref q17, .ref q19, .null])), (q1, .inr (3, [.ref (u2 1), .int 3])), ((u2 1), .inl (G.2 0, 49, .inl (fun _ => 0))), (q3, .inr (3, [.ref (u4 1), .int 3])), ((u4 1), .inl (G.2 0, 49, .inl (fun _ => 0))), (q5, .inr (3, [.ref (u6 1), .int 3])), ((u6 1), .inl (G.2 0, 49, .inl (fun _ => 0))), (q7, .inr (3, [.ref (u8 1), .int 3])), ((u8 1), .inl (G.2 0, 49, .inl (fun _ => 0))), (q9, .inr (2, [.ref (u10 1), .int 0, .int 0])), ((u10 1), .inl (G.2 4, 4, .inr (.inr (.inr (.inr (st4 (u10 2) (u10 4) (u10 6) (u10 8))))))), ((u10 2), .inr (3, [.ref (u10 3), .int 3])), ((u10 3), .inl (G.2 0, 49, .inl (fun _ => 0))), ((u10 4), .inr (3, [.ref (u10 5), .int 3])), ((u10 5), .inl (G.2 0, 49, .inl (fun _ => 0))), ((u10 6), .inr (3, [.ref (u10 7), .int 3])), ((u10 7), .inl (G.2 0, 49, .inl (fun _ => 0))), ((u10 8), .inr (3, [.ref (u10 9), .int 3])), ((u10 9), .inl (G.2 0, 49, .inl (fun _ => 0))), (q11, .inr (6, [.ref (u12 1), .int 0])), ((u12 1), .inl (G.2 3, 100, .inl (fun _ => 0))), (q13, .inr (7, [.int 0, .int 0, .int 0, .int 0, .int 0])), (q15, .inr (0, [.ref (u16 1)])), ((u16 1), .inl (G.2 1, 128, .inr (.inl (fun _ => 0)))), (q17, .inr (1, [.ref (u18 1)])), ((u18 1), .inl (G.2 0, 128, .inl (fun _ => 0))), (q19, .inr (4, [.ref (u20 1), .ref (u20 2), .ref (u20 3), .int 0])), ((u20 1), .inl (G.2 2, 49, .inr (.inr (.inr (.inl (fun _ => 0)))))), ((u20 2), .inl (G.2 2, 7, .inr (.inr (.inr (.inl (fun _ => 0)))))), ((u20 3), .inl (G.2 2, 7, .inr (.inr (.inr (.inl (fun _ => 0)))))), (q21, .inr (5, [.null, .null, .null, .null, .int 0]))] H := hP
  have hD : va_D A [(q_t, .inr (8, [.ref q1, .ref q3, .ref q5, .ref q7, .int 0, .ref q9, .ref q11, .ref q13, .ref q15, .ref q17, .ref q19, .null])), (q1, .inr (3, [.ref (u2 1), .int 3])), ((u2 1), .inl (G.2 0, 49, .inl (fun _ => 0))), (q3, .inr (3, [.ref (u4 1), .int 3])), ((u4 1), .inl (G.2 0, 49, .inl (fun _ => 0))), (q5, .inr (3, [.ref (u6 1), .int 3])), ((u6 1), .inl (G.2 0, 49, .inl (fun _ => 0))), (q7, .inr (3, [.ref (u8 1), .int 3])), ((u8 1), .inl (G.2 0, 49, .inl (fun _ => 0))), (q9, .inr (2, [.ref (u10 1), .int 0, .int 0])), ((u10 1), .inl (G.2 4, 4, .inr (.inr (.inr (.inr (st4 (u10 2) (u10 4) (u10 6) (u10 8))))))), ((u10 2), .inr (3, [.ref (u10 3), .int 3])), ((u10 3), .inl (G.2 0, 49, .inl (fun _ => 0))), ((u10 4), .inr (3, [.ref (u10 5), .int 3])), ((u10 5), .inl (G.2 0, 49, .inl (fun _ => 0))), ((u10 6), .inr (3, [.ref (u10 7), .int 3])), ((u10 7), .inl (G.2 0, 49, .inl (fun _ => 0))), ((u10 8), .inr (3, [.ref (u10 9), .int 3])), ((u10 9), .inl (G.2 0, 49, .inl (fun _ => 0))), (q11, .inr (6, [.ref (u12 1), .int 0])), ((u12 1), .inl (G.2 3, 100, .inl (fun _ => 0))), (q13, .inr (7, [.int 0, .int 0, .int 0, .int 0, .int 0])), (q15, .inr (0, [.ref (u16 1)])), ((u16 1), .inl (G.2 1, 128, .inr (.inl (fun _ => 0)))), (q17, .inr (1, [.ref (u18 1)])), ((u18 1), .inl (G.2 0, 128, .inl (fun _ => 0))), (q19, .inr (4, [.ref (u20 1), .ref (u20 2), .ref (u20 3), .int 0])), ((u20 1), .inl (G.2 2, 49, .inr (.inr (.inr (.inl (fun _ => 0)))))), ((u20 2), .inl (G.2 2, 7, .inr (.inr (.inr (.inl (fun _ => 0)))))), ((u20 3), .inl (G.2 2, 7, .inr (.inr (.inr (.inl (fun _ => 0)))))), (q21, .inr (5, [.null, .null, .null, .null, .int 0]))] := hD
  refine lv_dup hx hb dX9_init_123 rfl ?_
  refine ck_I (rest := [.ref q21, .ref q_t]) ⟨hx, hb, hml, hown, hts⟩ hK hAO hP hD hS hA [30] [0, 1, 2, 3, 4, 5, 6, 7, 8, 9, 10, 11, 12, 13, 14, 15, 16, 17, 18, 19, 20, 21, 22, 23, 24, 25, 26, 27, 28, 29] (c_X6_init l G q21 _) (cwI 0 hts gX9_init_X6_init rfl rfl rfl (hts _ wd_X9_init_38) (hts _ wd_X9_init_96) (hts _ wd_X9_init_97) rfl (by decide +kernel) ⟨Nat.le_of_ble_eq_true rfl, Nat.le_of_ble_eq_true rfl⟩) rfl rfl rfl rfl (by decide) hl.1 rfl (Nat.le_of_ble_eq_true rfl) dX9_init_124 ⟨Nat.le_of_ble_eq_true rfl, Nat.le_of_ble_eq_true rfl⟩ (fun u22 H locs hP hD hS => ?_)
  refine W.widen (k := 36) (n := 1130) (Nat.le_of_ble_eq_true rfl) (Nat.le_of_ble_eq_true rfl) ?_
  have hP : va_P G.1 vwCl [(q_t, .inr (8, [.ref q1, .ref q3, .ref q5, .ref q7, .int 0, .ref q9, .ref q11, .ref q13, .ref q15, .ref q17, .ref q19, .null])), (q1, .inr (3, [.ref (u2 1), .int 3])), ((u2 1), .inl (G.2 0, 49, .inl (fun _ => 0))), (q3, .inr (3, [.ref (u4 1), .int 3])), ((u4 1), .inl (G.2 0, 49, .inl (fun _ => 0))), (q5, .inr (3, [.ref (u6 1), .int 3])), ((u6 1), .inl (G.2 0, 49, .inl (fun _ => 0))), (q7, .inr (3, [.ref (u8 1), .int 3])), ((u8 1), .inl (G.2 0, 49, .inl (fun _ => 0))), (q9, .inr (2, [.ref (u10 1), .int 0, .int 0])), ((u10 1), .inl (G.2 4, 4, .inr (.inr (.inr (.inr (st4 (u10 2) (u10 4) (u10 6) (u10 8))))))), ((u10 2), .inr (3, [.ref (u10 3), .int 3])), ((u10 3), .inl (G.2 0, 49, .inl (fun _ => 0))), ((u10 4), .inr (3, [.ref (u10 5), .int 3])), ((u10 5), .inl (G.2 0, 49, .inl (fun _ => 0))), ((u10 6), .inr (3, [.ref (u10 7), .int 3])), ((u10 7), .inl (G.2 0, 49, .inl (fun _ => 0))), ((u10 8), .inr (3, [.ref (u10 9), .int 3])), ((u10 9), .inl (G.2 0, 49, .inl (fun _ => 0))), (q11, .inr (6, [.ref (u12 1), .int 0])), ((u12 1), .inl (G.2 3, 100, .inl (fun _ => 0))), (q13, .inr (7, [.int 0, .int 0, .int 0, .int 0, .int 0])), (q15, .inr (0, [.ref (u16 1)])), ((u16 1), .inl (G.2 1, 128, .inr (.inl (fun _ => 0)))), (q17, .inr (1, [.ref (u18 1)])), ((u18 1), .inl (G.2 0, 128, .inl (fun _ => 0))), (q19, .inr (4, [.ref (u20 1), .ref (u20 2), .ref (u20 3), .int 0])), ((u20 1), .inl (G.2 2, 49, .inr (.inr (.inr (.inl (fun _ => 0)))))), ((u20 2), .inl (G.2 2, 7, .inr (.inr (.inr (.inl (fun _ => 0)))))), ((u20 3), .inl (G.2 2, 7, .inr (.inr (.inr (.inl (fun _ => 0)))))), (q21, .inr (5, [.ref (u22 1), .ref (u22 3), .ref (u22 5), .ref (u22 6), .int 0])), ((u22 1), .inr (3, [.ref (u22 2), .int 3])), ((u22 2), .inl (G.2 0, 49, .inl (fun _ => 0))), ((u22 3), .inr (1, [.ref (u22 4)])), ((u22 4), .inl (G.2 0, 128, .inl (fun _ => 0))), ((u22 5), .inl (G.2 0, 49, .inl (fun _ => 0))), ((u22 6), .inl (G.2 0, 49, .inl (fun _ => 0)))] H := hP
  have hD : va_D A [(q_t, .inr (8, [.ref q1, .ref q3, .ref q5, .ref q7, .int 0, .ref q9, .ref q11, .ref q13, .ref q15, .ref q17, .ref q19, .null])), (q1, .inr (3, [.ref (u2 1), .int 3])), ((u2 1), .inl (G.2 0, 49, .inl (fun _ => 0))), (q3, .inr (3, [.ref (u4 1), .int 3])), ((u4 1), .inl (G.2 0, 49, .inl (fun _ => 0))), (q5, .inr (3, [.ref (u6 1), .int 3])), ((u6 1), .inl (G.2 0, 49, .inl (fun _ => 0))), (q7, .inr (3, [.ref (u8 1), .int 3])), ((u8 1), .inl (G.2 0, 49, .inl (fun _ => 0))), (q9, .inr (2, [.ref (u10 1), .int 0, .int 0])), ((u10 1), .inl (G.2 4, 4, .inr (.inr (.inr (.inr (st4 (u10 2) (u10 4) (u10 6) (u10 8))))))), ((u10 2), .inr (3, [.ref (u10 3), .int 3])), ((u10 3), .inl (G.2 0, 49, .inl (fun _ => 0))), ((u10 4), .inr (3, [.ref (u10 5), .int 3])), ((u10 5), .inl (G.2 0, 49, .inl (fun _ => 0))), ((u10 6), .inr (3, [.ref (u10 7), .int 3])), ((u10 7), .inl (G.2 0, 49, .inl (fun _ => 0))), ((u10 8), .inr (3, [.ref (u10 9), .int 3])), ((u10 9), .inl (G.2 0, 49, .inl (fun _ => 0))), (q11, .inr (6, [.ref (u12 1), .int 0])), ((u12 1), .inl (G.2 3, 100, .inl (fun _ => 0))), (q13, .inr (7, [.int 0, .int 0, .int 0, .int 0, .int 0])), (q15, .inr (0, [.ref (u16 1)])), ((u16 1), .inl (G.2 1, 128, .inr (.inl (fun _ => 0)))), (q17, .inr (1, [.ref (u18 1)])), ((u18 1), .inl (G.2 0, 128, .inl (fun _ => 0))), (q19, .inr (4, [.ref (u20 1), .ref (u20 2), .ref (u20 3), .int 0])), ((u20 1), .inl (G.2 2, 49, .inr (.inr (.inr (.inl (fun _ => 0)))))), ((u20 2), .inl (G.2 2, 7, .inr (.inr (.inr (.inl (fun _ => 0)))))), ((u20 3), .inl (G.2 2, 7, .inr (.inr (.inr (.inl (fun _ => 0)))))), (q21, .inr (5, [.ref (u22 1), .ref (u22 3), .ref (u22 5), .ref (u22 6), .int 0])), ((u22 1), .inr (3, [.ref (u22 2), .int 3])), ((u22 2), .inl (G.2 0, 49, .inl (fun _ => 0))), ((u22 3), .inr (1, [.ref (u22 4)])), ((u22 4), .inl (G.2 0, 128, .inl (fun _ => 0))), ((u22 5), .inl (G.2 0, 49, .inl (fun _ => 0))), ((u22 6), .inl (G.2 0, 49, .inl (fun _ => 0)))] := hD
  refine va_putF (D := G.1) (ci := 8) (v := .ref q21) (ty := .object "PermanentDesk$TakingApart") (C := RX9) (T := TX9) (N := 12) hx hb hts wi_X9_init_X9 tyX9 tyX9_ok nmX9 hown hK hP hD hS 0 rfl rfl 11 (by decide) (hts _ wd_X9_init_39) (fun _ h9 => h9) rfl hin rfl (by decide +kernel) rfl rfl (Nat.le_of_ble_eq_true rfl) dX9_init_127 (fun H locs hP hD hS => ?_)
  have hP : va_P G.1 vwCl [(q_t, .inr (8, [.ref q1, .ref q3, .ref q5, .ref q7, .int 0, .ref q9, .ref q11, .ref q13, .ref q15, .ref q17, .ref q19, .ref q21])), (q1, .inr (3, [.ref (u2 1), .int 3])), ((u2 1), .inl (G.2 0, 49, .inl (fun _ => 0))), (q3, .inr (3, [.ref (u4 1), .int 3])), ((u4 1), .inl (G.2 0, 49, .inl (fun _ => 0))), (q5, .inr (3, [.ref (u6 1), .int 3])), ((u6 1), .inl (G.2 0, 49, .inl (fun _ => 0))), (q7, .inr (3, [.ref (u8 1), .int 3])), ((u8 1), .inl (G.2 0, 49, .inl (fun _ => 0))), (q9, .inr (2, [.ref (u10 1), .int 0, .int 0])), ((u10 1), .inl (G.2 4, 4, .inr (.inr (.inr (.inr (st4 (u10 2) (u10 4) (u10 6) (u10 8))))))), ((u10 2), .inr (3, [.ref (u10 3), .int 3])), ((u10 3), .inl (G.2 0, 49, .inl (fun _ => 0))), ((u10 4), .inr (3, [.ref (u10 5), .int 3])), ((u10 5), .inl (G.2 0, 49, .inl (fun _ => 0))), ((u10 6), .inr (3, [.ref (u10 7), .int 3])), ((u10 7), .inl (G.2 0, 49, .inl (fun _ => 0))), ((u10 8), .inr (3, [.ref (u10 9), .int 3])), ((u10 9), .inl (G.2 0, 49, .inl (fun _ => 0))), (q11, .inr (6, [.ref (u12 1), .int 0])), ((u12 1), .inl (G.2 3, 100, .inl (fun _ => 0))), (q13, .inr (7, [.int 0, .int 0, .int 0, .int 0, .int 0])), (q15, .inr (0, [.ref (u16 1)])), ((u16 1), .inl (G.2 1, 128, .inr (.inl (fun _ => 0)))), (q17, .inr (1, [.ref (u18 1)])), ((u18 1), .inl (G.2 0, 128, .inl (fun _ => 0))), (q19, .inr (4, [.ref (u20 1), .ref (u20 2), .ref (u20 3), .int 0])), ((u20 1), .inl (G.2 2, 49, .inr (.inr (.inr (.inl (fun _ => 0)))))), ((u20 2), .inl (G.2 2, 7, .inr (.inr (.inr (.inl (fun _ => 0)))))), ((u20 3), .inl (G.2 2, 7, .inr (.inr (.inr (.inl (fun _ => 0)))))), (q21, .inr (5, [.ref (u22 1), .ref (u22 3), .ref (u22 5), .ref (u22 6), .int 0])), ((u22 1), .inr (3, [.ref (u22 2), .int 3])), ((u22 2), .inl (G.2 0, 49, .inl (fun _ => 0))), ((u22 3), .inr (1, [.ref (u22 4)])), ((u22 4), .inl (G.2 0, 128, .inl (fun _ => 0))), ((u22 5), .inl (G.2 0, 49, .inl (fun _ => 0))), ((u22 6), .inl (G.2 0, 49, .inl (fun _ => 0)))] H := hP
  have hD : va_D A [(q_t, .inr (8, [.ref q1, .ref q3, .ref q5, .ref q7, .int 0, .ref q9, .ref q11, .ref q13, .ref q15, .ref q17, .ref q19, .ref q21])), (q1, .inr (3, [.ref (u2 1), .int 3])), ((u2 1), .inl (G.2 0, 49, .inl (fun _ => 0))), (q3, .inr (3, [.ref (u4 1), .int 3])), ((u4 1), .inl (G.2 0, 49, .inl (fun _ => 0))), (q5, .inr (3, [.ref (u6 1), .int 3])), ((u6 1), .inl (G.2 0, 49, .inl (fun _ => 0))), (q7, .inr (3, [.ref (u8 1), .int 3])), ((u8 1), .inl (G.2 0, 49, .inl (fun _ => 0))), (q9, .inr (2, [.ref (u10 1), .int 0, .int 0])), ((u10 1), .inl (G.2 4, 4, .inr (.inr (.inr (.inr (st4 (u10 2) (u10 4) (u10 6) (u10 8))))))), ((u10 2), .inr (3, [.ref (u10 3), .int 3])), ((u10 3), .inl (G.2 0, 49, .inl (fun _ => 0))), ((u10 4), .inr (3, [.ref (u10 5), .int 3])), ((u10 5), .inl (G.2 0, 49, .inl (fun _ => 0))), ((u10 6), .inr (3, [.ref (u10 7), .int 3])), ((u10 7), .inl (G.2 0, 49, .inl (fun _ => 0))), ((u10 8), .inr (3, [.ref (u10 9), .int 3])), ((u10 9), .inl (G.2 0, 49, .inl (fun _ => 0))), (q11, .inr (6, [.ref (u12 1), .int 0])), ((u12 1), .inl (G.2 3, 100, .inl (fun _ => 0))), (q13, .inr (7, [.int 0, .int 0, .int 0, .int 0, .int 0])), (q15, .inr (0, [.ref (u16 1)])), ((u16 1), .inl (G.2 1, 128, .inr (.inl (fun _ => 0)))), (q17, .inr (1, [.ref (u18 1)])), ((u18 1), .inl (G.2 0, 128, .inl (fun _ => 0))), (q19, .inr (4, [.ref (u20 1), .ref (u20 2), .ref (u20 3), .int 0])), ((u20 1), .inl (G.2 2, 49, .inr (.inr (.inr (.inl (fun _ => 0)))))), ((u20 2), .inl (G.2 2, 7, .inr (.inr (.inr (.inl (fun _ => 0)))))), ((u20 3), .inl (G.2 2, 7, .inr (.inr (.inr (.inl (fun _ => 0)))))), (q21, .inr (5, [.ref (u22 1), .ref (u22 3), .ref (u22 5), .ref (u22 6), .int 0])), ((u22 1), .inr (3, [.ref (u22 2), .int 3])), ((u22 2), .inl (G.2 0, 49, .inl (fun _ => 0))), ((u22 3), .inr (1, [.ref (u22 4)])), ((u22 4), .inl (G.2 0, 128, .inl (fun _ => 0))), ((u22 5), .inl (G.2 0, 49, .inl (fun _ => 0))), ((u22 6), .inl (G.2 0, 49, .inl (fun _ => 0)))] := hD
  have hP9 := hP.sub (ws' := [(q_t, .inr (8, [.ref q1, .ref q3, .ref q5, .ref q7, .int 0, .ref q9, .ref q11, .ref q13, .ref q15, .ref q17, .ref q19, .ref q21])), (q1, .inr (3, [.ref (u2 1), .int 3])), ((u2 1), .inl (G.2 0, 49, .inl (fun _ => 0))), (q3, .inr (3, [.ref (u4 1), .int 3])), ((u4 1), .inl (G.2 0, 49, .inl (fun _ => 0))), (q5, .inr (3, [.ref (u6 1), .int 3])), ((u6 1), .inl (G.2 0, 49, .inl (fun _ => 0))), (q7, .inr (3, [.ref (u8 1), .int 3])), ((u8 1), .inl (G.2 0, 49, .inl (fun _ => 0))), (q9, .inr (2, [.ref (u10 1), .int 0, .int 0])), ((u10 1), .inl (G.2 4, 4, .inr (.inr (.inr (.inr (st4 (u10 2) (u10 4) (u10 6) (u10 8))))))), ((u10 2), .inr (3, [.ref (u10 3), .int 3])), ((u10 3), .inl (G.2 0, 49, .inl (fun _ => 0))), ((u10 4), .inr (3, [.ref (u10 5), .int 3])), ((u10 5), .inl (G.2 0, 49, .inl (fun _ => 0))), ((u10 6), .inr (3, [.ref (u10 7), .int 3])), ((u10 7), .inl (G.2 0, 49, .inl (fun _ => 0))), ((u10 8), .inr (3, [.ref (u10 9), .int 3])), ((u10 9), .inl (G.2 0, 49, .inl (fun _ => 0))), (q11, .inr (6, [.ref (u12 1), .int 0])), ((u12 1), .inl (G.2 3, 100, .inl (fun _ => 0))), (q13, .inr (7, [.int 0, .int 0, .int 0, .int 0, .int 0])), (q15, .inr (0, [.ref (u16 1)])), ((u16 1), .inl (G.2 1, 128, .inr (.inl (fun _ => 0)))), (q17, .inr (1, [.ref (u18 1)])), ((u18 1), .inl (G.2 0, 128, .inl (fun _ => 0))), (q19, .inr (4, [.ref (u20 1), .ref (u20 2), .ref (u20 3), .int 0])), ((u20 1), .inl (G.2 2, 49, .inr (.inr (.inr (.inl (fun _ => 0)))))), ((u20 2), .inl (G.2 2, 7, .inr (.inr (.inr (.inl (fun _ => 0)))))), ((u20 3), .inl (G.2 2, 7, .inr (.inr (.inr (.inl (fun _ => 0)))))), (q21, .inr (5, [.ref (u22 1), .ref (u22 3), .ref (u22 5), .ref (u22 6), .int 0])), ((u22 1), .inr (3, [.ref (u22 2), .int 3])), ((u22 2), .inl (G.2 0, 49, .inl (fun _ => 0))), ((u22 3), .inr (1, [.ref (u22 4)])), ((u22 4), .inl (G.2 0, 128, .inl (fun _ => 0))), ((u22 5), .inl (G.2 0, 49, .inl (fun _ => 0))), ((u22 6), .inl (G.2 0, 49, .inl (fun _ => 0)))]) [0, 1, 2, 3, 4, 5, 6, 7, 8, 9, 10, 11, 12, 13, 14, 15, 16, 17, 18, 19, 20, 21, 22, 23, 24, 25, 26, 27, 28, 29, 30, 31, 32, 33, 34, 35, 36] rfl
  have hD9 := hD.sub (ws' := [(q_t, .inr (8, [.ref q1, .ref q3, .ref q5, .ref q7, .int 0, .ref q9, .ref q11, .ref q13, .ref q15, .ref q17, .ref q19, .ref q21])), (q1, .inr (3, [.ref (u2 1), .int 3])), ((u2 1), .inl (G.2 0, 49, .inl (fun _ => 0))), (q3, .inr (3, [.ref (u4 1), .int 3])), ((u4 1), .inl (G.2 0, 49, .inl (fun _ => 0))), (q5, .inr (3, [.ref (u6 1), .int 3])), ((u6 1), .inl (G.2 0, 49, .inl (fun _ => 0))), (q7, .inr (3, [.ref (u8 1), .int 3])), ((u8 1), .inl (G.2 0, 49, .inl (fun _ => 0))), (q9, .inr (2, [.ref (u10 1), .int 0, .int 0])), ((u10 1), .inl (G.2 4, 4, .inr (.inr (.inr (.inr (st4 (u10 2) (u10 4) (u10 6) (u10 8))))))), ((u10 2), .inr (3, [.ref (u10 3), .int 3])), ((u10 3), .inl (G.2 0, 49, .inl (fun _ => 0))), ((u10 4), .inr (3, [.ref (u10 5), .int 3])), ((u10 5), .inl (G.2 0, 49, .inl (fun _ => 0))), ((u10 6), .inr (3, [.ref (u10 7), .int 3])), ((u10 7), .inl (G.2 0, 49, .inl (fun _ => 0))), ((u10 8), .inr (3, [.ref (u10 9), .int 3])), ((u10 9), .inl (G.2 0, 49, .inl (fun _ => 0))), (q11, .inr (6, [.ref (u12 1), .int 0])), ((u12 1), .inl (G.2 3, 100, .inl (fun _ => 0))), (q13, .inr (7, [.int 0, .int 0, .int 0, .int 0, .int 0])), (q15, .inr (0, [.ref (u16 1)])), ((u16 1), .inl (G.2 1, 128, .inr (.inl (fun _ => 0)))), (q17, .inr (1, [.ref (u18 1)])), ((u18 1), .inl (G.2 0, 128, .inl (fun _ => 0))), (q19, .inr (4, [.ref (u20 1), .ref (u20 2), .ref (u20 3), .int 0])), ((u20 1), .inl (G.2 2, 49, .inr (.inr (.inr (.inl (fun _ => 0)))))), ((u20 2), .inl (G.2 2, 7, .inr (.inr (.inr (.inl (fun _ => 0)))))), ((u20 3), .inl (G.2 2, 7, .inr (.inr (.inr (.inl (fun _ => 0)))))), (q21, .inr (5, [.ref (u22 1), .ref (u22 3), .ref (u22 5), .ref (u22 6), .int 0])), ((u22 1), .inr (3, [.ref (u22 2), .int 3])), ((u22 2), .inl (G.2 0, 49, .inl (fun _ => 0))), ((u22 3), .inr (1, [.ref (u22 4)])), ((u22 4), .inl (G.2 0, 128, .inl (fun _ => 0))), ((u22 5), .inl (G.2 0, 49, .inl (fun _ => 0))), ((u22 6), .inl (G.2 0, 49, .inl (fun _ => 0)))]) [0, 1, 2, 3, 4, 5, 6, 7, 8, 9, 10, 11, 12, 13, 14, 15, 16, 17, 18, 19, 20, 21, 22, 23, 24, 25, 26, 27, 28, 29, 30, 31, 32, 33, 34, 35, 36] (by decide) rfl
  exact W.vret hx hb B.returns (fun t ht hW => ⟨⟨fun k => List.getD [q_t, q1, (u2 1), q3, (u4 1), q5, (u6 1), q7, (u8 1), q9, (u10 1), (u10 2), (u10 3), (u10 4), (u10 5), (u10 6), (u10 7), (u10 8), (u10 9), q11, (u12 1), q13, q15, (u16 1), q17, (u18 1), q19, (u20 1), (u20 2), (u20 3), q21, (u22 1), (u22 2), (u22 3), (u22 4), (u22 5), (u22 6)] k 0, rfl, trivial, by rw [ht]; exact hP9, hD9⟩, hS.F ht⟩) hS.2.2 dX9_init_130 B.notSynchronized
