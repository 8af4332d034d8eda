/-! the law's reading of its script -/
def cellv (L : Nat) (xs : Nat → Int32) (k : Int32) : Int32 := (if Int32.ofNat L ≤ k then (1831565813 : Int32) * (k + (67 : Int32)) + (14009 : Int32) else xs k.toNatClampNeg) &&& (2147483647 : Int32)
theorem wd_L_cell_1 : Cond.constant RL 7 (1831565813) ∈ wsL_cell := List.mem_of_getElem? (i := 1) (by decide +kernel)
theorem wd_L_cell_2 : Cond.constant RL 8 (2147483647) ∈ wsL_cell := List.mem_of_getElem? (i := 2) (by decide +kernel)
def pcX (b L : Nat) (xs : Nat → Int32) (sz : Nat) (U : State) : Prop := U.heap.size = sz ∧ va_X b L xs U U.heap
set_option maxHeartbeats 4000000 in
set_option maxRecDepth 100000 in
theorem c_L_cell (l : Launch) (b L : Nat) (xs : Nat → Int32) (sz : Nat) (k : Int32) (hin : ¬ Int32.ofNat L ≤ k → okI k L) (hbl : b < sz) : Met l yL_cell wsL_cell ({ frames := 0, cells := 0, slots := 0, locals := 0 } : Room) (va_Pc [.ref b, .int k] (pcX b L xs sz)) (va_Qi (fun r9 (_ : Unit) => r9 = cellv L xs k) (fun _ _ => True) (va_A [] sz)) 0 0 (va_A [] sz) := by
  refine Met.ofW (cc := cL_cell) (maxL := 2) (ret := (some .int)) (by decide) rfl ?_
  intro p e s m args below meth c s₁ B hml hv
  obtain ⟨rfl, hsz, hX⟩ := hv
  subst hsz
  have hbA : ¬ (va_A [] s.heap.size) b := by
    intro h
    rcases h with ⟨j, e, h⟩ | h
    · simp at h
    · exact absurd h (Nat.not_le.mpr hbl)
  have hx := B.exec
  have hb : c.code = cL_cell := B.bytes
  have hts := atoms_spec (ws := wsL_cell) B.pre
  have hown := findClass_of_methodNamed B.named
  have hl := lv_entry ([.ref b, .int k]) (n := 2) (Nat.le_of_ble_eq_true rfl)
  rw [lg_entry_eq]
  generalize (lg_sl ([.ref b, .int k]) ++ List.replicate (2 - (lg_sl ([.ref b, .int k])).length) Slot.unset).toArray = ls at hl ⊢
  have hl : lv_has ls 2 [(0, .ref b), (1, .int k)] := hl
  have hS : va_S (va_A [] s.heap.size) s.heap s.heap [] := va_S.rf
  refine lv_iload_n hx hb dL_cell_0 rfl (lv_at hl 1 rfl) ?_
  refine lv_aload_n hx hb dL_cell_1 rfl (lv_at hl 0 rfl) ?_
  refine va_slen hx hb hX hbl hbA hS dL_cell_2 ?_
  refine lv_icmp_ge (tgt := 12) hx hb dL_cell_3 (by decide) (fun c1 => ?_) (fun c1 => ?_)
  · refine lv_ldc (v := 1831565813) hx hb hown (hts _ wd_L_cell_1) dL_cell_12 ?_
    refine lv_iload_n hx hb dL_cell_14 rfl (lv_at hl 1 rfl) ?_
    refine lv_bipush (v := 67) hx hb dL_cell_15 (by decide) ?_
    refine lv_iadd hx hb dL_cell_17 ?_
    refine lv_imul hx hb dL_cell_18 ?_
    refine lv_sipush (v := 14009) hx hb dL_cell_19 (by decide) ?_
    refine lv_iadd hx hb dL_cell_22 ?_
    refine lv_ldc (v := 2147483647) hx hb hown (hts _ wd_L_cell_2) dL_cell_23 ?_
    refine lv_iand hx hb dL_cell_25 ?_
    exact W.iret B.exec B.bytes B.returns (fun t ht hW => ⟨⟨_, (), rfl, by unfold cellv; rw [if_pos c1], trivial⟩, hS.F ht⟩) hS.2.2 dL_cell_26 B.notSynchronized
  · refine lv_aload_n hx hb dL_cell_6 rfl (lv_at hl 0 rfl) ?_
    refine lv_iload_n hx hb dL_cell_7 rfl (lv_at hl 1 rfl) ?_
    refine va_sld hx hb hX hbl hbA hS (hin c1) dL_cell_8 ?_
    refine lv_goto (tgt := 23) hx hb dL_cell_9 (by decide) ?_
    refine lv_ldc (v := 2147483647) hx hb hown (hts _ wd_L_cell_2) dL_cell_23 ?_
    refine lv_iand hx hb dL_cell_25 ?_
    exact W.iret B.exec B.bytes B.returns (fun t ht hW => ⟨⟨_, (), rfl, by unfold cellv; rw [if_neg c1], trivial⟩, hS.F ht⟩) hS.2.2 dL_cell_26 B.notSynchronized
section CC
variable {p : Program} {l : Launch} {e : Env} {R : Room} {s : State} {m : MethodId} {args : Array Value} {below : List Frame} {meth : Method} {c : Code} {H : Heap} {locs : List Loc} {cells slots : Nat} {Q : State → Prop}
variable {cc bytes : ByteArray} {nL maxL index n : Nat} {own : String} {ret : Option FieldType} {Ts : List Cond}
variable {G : GT} {ws : va_W} {A0 : Nat → Prop} {H0 : Heap} {b L : Nat} {xs : Nat → Int32} {rest st0 : List Value} {pc : Nat} {ls : Array Slot} {k : Int32}
theorem ck_cell (S : CallFix p m c cc nL s args Ts own) (hK : gK G s) (hP : va_P G.1 vwCl ws H) (hD : va_D A0 ws) (hS : va_S A0 H0 H locs) (hA : ∀ q, H0.size ≤ q → A0 q) (hX : va_X b L xs s H0) (hbl : b < H0.size) (hbA : ¬ A0 b) (hin : ¬ Int32.ofNat L ≤ k → okI k L) (isR perm : List Nat)
    (cw : CallB R s args own index yL_cell bytes maxL ret wsL_cell ({ frames := 0, cells := 0, slots := 0, locals := 0 } : Room) 0 0 2 ∧ (Cond.static yL_cell).before args s = true) (hR : isR.map (fun i => ws[i]?) = (isR.filterMap (fun i => ws[i]?)).map some) (hn : va_nd isR = true)
    {wn : va_W} (hp : perm.map (fun i => (isR.filterMap (fun i => ws[i]?) ++ [])[i]?) = wn.map some) (hpn : va_nd perm = true)
    (hst : st0 = .int k :: .ref b :: rest) (hsize : ls.size = nL) (hW : (rest.map fun v => v.category).sum ≤ 8) (hdg : decode cc pc = .ok (.invokestatic index, 3)) (hcs : cells ≤ R.cells ∧ slots ≤ R.slots)
    (kk : ∀ (H1 : Heap) (locs1 : List Loc), va_P G.1 vwCl wn H1 → va_D A0 wn → va_S A0 H0 H1 locs1 → W p l e R s m args below meth c H1 locs1 cells slots Q (F0 m (pc + 3) ls (.int (cellv L xs k) :: rest))) : W p l e R s m args below meth c H locs cells slots Q (F0 m pc ls st0) := by
  have hC : ([] : List Nat).map (fun i => ws[i]?) = ([] : va_W).map some := rfl
  have hF := va_free hD hS hA [] hC
  have hX1 : va_X b L xs s H := hX.kept (hS.2.1 b hbl hbA)
  have hb1 : b < H.size := Nat.lt_of_lt_of_le hbl hS.1
  have hpre : PreS s H (va_Pc [.ref b, .int k] (pcX b L xs H.size)) [.ref b, .int k] := by
    refine ⟨fun a U g mk q => ?_, fun U hU hW => ⟨rfl, by rw [hU], by rw [hU]; exact va_X.moved hW.alike hX1⟩⟩
    obtain ⟨q0, q1, qX⟩ := q
    exact ⟨q0, q1, va_X.moved (u := U) (U := U.calling g mk a) (Vm.Alike.refl U.vm) qX⟩
  refine va_calli (va_runS S (c_L_cell l b L xs H.size k hin hb1) cw hpre rfl rfl hsize (by rw [hst]; rfl) (lv_room hW) hdg hcs) hS (fun q _ h => hF q h) hF (fun r u t H1 locs1 ht hvm hw hB hz hk hS1 => ?_)
  obtain rfl : r = cellv L xs k := hw
  have hP0 : va_P G.1 vwCl [] H1 := fun j q h => by simp at h
  have hD0 : va_D (va_A ([] : va_W) H.size) ([] : va_W) := ⟨fun i j p q h => by simp at h, fun j q h => by simp at h⟩
  obtain ⟨hP2, hD2⟩ := ck_back [] isR perm hP hD hS hA hC hR hn (fun i _ h => by simp at h) hp hpn hk hP0 hD0
  exact kk H1 locs1 hP2 hD2 hS1
end CC
