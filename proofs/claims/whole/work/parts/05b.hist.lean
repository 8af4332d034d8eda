/-! MATHEMATICS, part b: states, rows copied, the history -/
/-- a matrix of n rows: the desk's cells, the model's row -/
def Mx (n : Nat) (c z : Nat → Int32) : Prop := 1 ≤ n ∧ n ≤ 7 ∧ (∀ k, k < 49 → c k = z k) ∧ z 49 = nI n ∧ (∀ r q, r < 7 → q < 7 → (n ≤ r ∨ n ≤ q) → z (7 * r + q) = 0) ∧ (∀ k, k < 49 → -20 ≤ (z k).toInt ∧ (z k).toInt ≤ 20)
theorem Mx.congr {n : Nat} {c c' z z' : Nat → Int32} (h : Mx n c z) (hc : ∀ k, k < 49 → c' k = c k) (hz : ∀ k, k < 50 → z' k = z k) : Mx n c' z' := by
  obtain ⟨h1, h2, h3, h4, h5, h6⟩ := h
  refine ⟨h1, h2, fun k hk => by rw [hc k hk, hz k (by omega), h3 k hk], by rw [hz 49 (by omega), h4], fun r q hr hq h => by rw [hz _ (by omega), h5 r q hr hq h], fun k hk => by rw [hz k (by omega)]; exact h6 k hk⟩
theorem copyRow_n {n1 n3 sp dp m : Nat} (src dst : Nat → Int32) (h1 : sp + m ≤ n1) (h3 : dp + m ≤ n3) (hn1 : n1 < 1000) (hn3 : n3 < 1000) : f_X10_copyRow n1 n3 src dst (nI sp) (nI dp) (nI m) = some (va_cpy src dst sp dp m) := by
  unfold f_X10_copyRow
  have h := lp_run (body := f_X10_copyRow_L1 n1 n3 (nI sp) (nI dp) (nI m) src) (fun j => (nI j, va_cpy src dst sp dp j)) m (va_cpy src dst sp dp m) (fun j hj => by
    rw [f_X10_copyRow_L1]
    simp (disch := omega) only [lit32, bs, pl_e, gd_okI, nI_leI, nI_ltI, nI_eq, nI_add, pk_mul, pk_sub, nI_m1', nI_clamp, if_pos, if_neg, ↓reduceIte]
    congr 4
    funext k
    unfold upd va_cpy
    by_cases e : k = dp + j
    · subst e; simp
    · simp only [e, if_false]
      by_cases e2 : dp ≤ k ∧ k < dp + j
      · rw [if_pos e2, if_pos (by omega)]
      · rw [if_neg e2, if_neg (by omega)]) (by
    rw [f_X10_copyRow_L1]
    simp (disch := omega) only [lit32, bs, pl_e, gd_okI, nI_leI, nI_ltI, nI_eq, nI_add, pk_mul, pk_sub, nI_m1', nI_clamp, if_pos, if_neg, ↓reduceIte]) (fuel := FU) (FU_lt (by omega))
  have e0 : va_cpy src dst sp dp 0 = dst := by
    funext k
    unfold va_cpy
    rw [if_neg (by omega)]
  have h' : lpN (f_X10_copyRow_L1 n1 n3 (nI sp) (nI dp) (nI m) src) FU (nI 0, va_cpy src dst sp dp 0) = some (va_cpy src dst sp dp m) := h
  rw [e0] at h'
  show (lpN (f_X10_copyRow_L1 n1 n3 (nI sp) (nI dp) (nI m) src) FU (nI 0, dst)).bind _ = _
  rw [h', bs]
theorem copyDown_n (a : Nat → Int32) : f_X10_copyRow__a3_a1 200 a (50 : Int32) (0 : Int32) (150 : Int32) = some (fun k => if k < 150 then a (50 + k) else a k) := by
  unfold f_X10_copyRow__a3_a1
  have h := lp_run (body := f_X10_copyRow__a3_a1_L1 200 (50 : Int32) (0 : Int32) (150 : Int32)) (fun j => (nI j, fun k => if k < j then a (50 + k) else a k)) 150 (fun k => if k < 150 then a (50 + k) else a k) (fun j hj => by
    rw [f_X10_copyRow__a3_a1_L1]
    simp (disch := omega) only [lit32, bs, pl_e, gd_okI, nI_leI, nI_ltI, nI_eq, nI_add, pk_mul, pk_sub, nI_m1', nI_clamp, if_pos, if_neg, ↓reduceIte]
    congr 4
    funext k
    unfold upd
    by_cases e : k = 0 + j
    · subst e
      simp
    · simp only [e, if_false]
      by_cases e2 : k < j
      · rw [if_pos e2, if_pos (by omega)]
      · rw [if_neg e2, if_neg (by omega)]) (by
    rw [f_X10_copyRow__a3_a1_L1]
    simp (disch := omega) only [lit32, bs, pl_e, gd_okI, nI_leI, nI_ltI, nI_eq, nI_add, pk_mul, pk_sub, nI_m1', nI_clamp, if_pos, if_neg, ↓reduceIte]) (fuel := FU) (FU_lt (by omega))
  have e0 : (fun k => if k < 0 then a (50 + k) else a k) = a := by
    funext k
    rw [if_neg (by omega)]
  have h' : lpN (f_X10_copyRow__a3_a1_L1 200 (50 : Int32) (0 : Int32) (150 : Int32)) FU (nI 0, fun k => if k < 0 then a (50 + k) else a k) = some (fun k => if k < 150 then a (50 + k) else a k) := h
  rw [e0] at h'
  show (lpN (f_X10_copyRow__a3_a1_L1 200 (50 : Int32) (0 : Int32) (150 : Int32)) FU (nI 0, a)).bind _ = _
  rw [h', bs]
/-- the history: a ring of states, and the model's rows -/
def HI (o c : Nat) (S : Nat → Int32) (C : Nat → Nat → Int32) (past : Nat → Int32) : Prop := o < 4 ∧ c ≤ 4 ∧ ∀ i, i < c → ∃ n, S ((o + i) % 4) = nI n ∧ Mx n (C ((o + i) % 4)) (fun k => past (50 * i + k))
theorem rem4 {o i : Nat} (ho : o < 4) (hi : i ≤ 4) : (nI o + nI i) - (nI o + nI i) / (4 : Int32) * (4 : Int32) = nI ((o + i) % 4) := by
  rw [nI_add]
  exact pk_rem (a := o + i) (d := 4) (by omega) (by omega) (by omega)
theorem placeOf_n {o i : Nat} (ho : o < 4) (hi : i ≤ 4) : f_X3_placeOf (nI o) (nI i) = some (nI ((o + i) % 4)) := by
  unfold f_X3_placeOf
  rw [pl_e, rem4 ho hi]
  have : (o + i) % 4 < 4 := Nat.mod_lt _ (by omega)
  simp (disch := omega) only [lit32, bs, pl_e, gd_okI, nI_leI, nI_ltI, nI_eq, nI_add, pk_mul, pk_sub, nI_m1', nI_clamp, if_pos, if_neg, ↓reduceIte]
def updC (C : Nat → Nat → Int32) (j : Nat) (w : Nat → Int32) : Nat → Nat → Int32 := fun k => if k = j then w else C k
theorem record_n {o c n : Nat} {S : Nat → Int32} {C : Nat → Nat → Int32} {past : Nat → Int32} (h : HI o c S C past) {m row : Nat → Int32} (hm : Mx n m row) :
    ∃ o' c' S' C' past', f_X3_record (nI o) (nI c) (S 0) (C 0) (S 1) (C 1) (S 2) (C 2) (S 3) (C 3) (nI n) m = some (nI o', nI c', S' 0, C' 0, S' 1, C' 1, S' 2, C' 2, S' 3, C' 3) ∧ f_X10_recordRow 50 (nI c) past row = some (nI c', past') ∧ HI o' c' S' C' past' := by
  obtain ⟨ho, hc, hi⟩ := h
  have hj : (o + c) % 4 < 4 := Nat.mod_lt _ (by omega)
  -- the desk's side
  have e9 : ∀ j : Nat, f_X4_copyFrom (S j) (C j) (nI n) m = some (nI n, va_cpy m (C j) 0 0 49) := fun j => copy_e _ _ _ _
  have hw : ∀ j k, k < 49 → va_cpy m (C j) 0 0 49 k = m k := fun j k hk => cpy49 _ _ hk
  by_cases hc4 : c = 4
  · subst hc4
    refine ⟨(o + 1) % 4, 4, upd S ((o + 4) % 4) (nI n), updC C ((o + 4) % 4) (va_cpy m (C ((o + 4) % 4)) 0 0 49), va_cpy row (fun k => if k < 150 then past (50 + k) else past k) 0 150 50, ?_, ?_, ?_⟩
    · unfold f_X3_record
      rw [placeOf_n ho (by omega), show (nI o + (1 : Int32) - (nI o + (1 : Int32)) / (4 : Int32) * (4 : Int32)) = nI ((o + 1) % 4) from rem4 (i := 1) ho (by omega)]
      simp only [e9]
      have e : (o + 4) % 4 = 0 ∨ (o + 4) % 4 = 1 ∨ (o + 4) % 4 = 2 ∨ (o + 4) % 4 = 3 := by omega
      rcases e with e | e | e | e <;> rw [e] <;> simp (disch := omega) only [lit32, bs, pl_e, gd_okI, nI_leI, nI_ltI, nI_eq, nI_add, pk_mul, pk_sub, nI_m1', nI_clamp, if_pos, if_neg, ↓reduceIte, upd, updC] <;> rfl
    · unfold f_X10_recordRow
      simp (disch := omega) only [lit32, bs, pl_e, gd_okI, nI_leI, nI_ltI, nI_eq, nI_add, pk_mul, pk_sub, nI_m1', nI_clamp, if_pos, if_neg, ↓reduceIte]
      have := copyDown_n past
      simp only [lit32] at this
      rw [this]
      simp (disch := omega) only [lit32, bs, pl_e, gd_okI, nI_leI, nI_ltI, nI_eq, nI_add, pk_mul, pk_sub, nI_m1', nI_clamp, if_pos, if_neg, ↓reduceIte]
      rw [copyRow_n (n1 := 50) (n3 := 200) (sp := 0) (dp := 50 * (4 - 1)) (m := 50) _ _ (by omega) (by omega) (by omega) (by omega)]
      simp (disch := omega) only [lit32, bs, pl_e, gd_okI, nI_leI, nI_ltI, nI_eq, nI_add, pk_mul, pk_sub, nI_m1', nI_clamp, if_pos, if_neg, ↓reduceIte]
    · refine ⟨Nat.mod_lt _ (by omega), by omega, fun i hi4 => ?_⟩
      by_cases e3 : i = 3
      · subst e3
        have e : ((o + 1) % 4 + 3) % 4 = (o + 4) % 4 := by omega
        refine ⟨n, ?_, ?_⟩
        · rw [e]; unfold upd; rw [if_pos rfl]
        · rw [e]
          unfold updC
          rw [if_pos rfl]
          refine hm.congr (hw _) (fun k hk => ?_)
          show (if 150 ≤ 50 * 3 + k ∧ 50 * 3 + k < 150 + 50 then row (0 + (50 * 3 + k - 150)) else _) = row k
          rw [if_pos (by omega)]
          exact congrArg _ (by omega)
      · have e : ((o + 1) % 4 + i) % 4 = (o + (i + 1)) % 4 := by omega
        have en : (o + (i + 1)) % 4 ≠ (o + 4) % 4 := by omega
        obtain ⟨n', h1, h2⟩ := hi (i + 1) (by omega)
        refine ⟨n', ?_, ?_⟩
        · rw [e]; unfold upd; rw [if_neg en]; exact h1
        · rw [e]
          unfold updC
          rw [if_neg en]
          refine h2.congr (fun _ _ => rfl) (fun k hk => ?_)
          show (if 150 ≤ 50 * i + k ∧ 50 * i + k < 150 + 50 then _ else if 50 * i + k < 150 then past (50 + (50 * i + k)) else _) = past (50 * (i + 1) + k)
          rw [if_neg (by omega), if_pos (by omega)]
          exact congrArg _ (by omega)
  · refine ⟨o, c + 1, upd S ((o + c) % 4) (nI n), updC C ((o + c) % 4) (va_cpy m (C ((o + c) % 4)) 0 0 49), va_cpy row past 0 (50 * c) 50, ?_, ?_, ?_⟩
    · unfold f_X3_record
      rw [placeOf_n ho (by omega)]
      simp only [e9]
      have e : (o + c) % 4 = 0 ∨ (o + c) % 4 = 1 ∨ (o + c) % 4 = 2 ∨ (o + c) % 4 = 3 := by omega
      rcases e with e | e | e | e <;> rw [e] <;> simp (disch := omega) only [lit32, bs, pl_e, gd_okI, nI_leI, nI_ltI, nI_eq, nI_add, pk_mul, pk_sub, nI_m1', nI_clamp, if_pos, if_neg, ↓reduceIte, upd, updC] <;> rfl
    · unfold f_X10_recordRow
      simp (disch := omega) only [lit32, bs, pl_e, gd_okI, nI_leI, nI_ltI, nI_eq, nI_add, pk_mul, pk_sub, nI_m1', nI_clamp, if_pos, if_neg, ↓reduceIte]
      rw [copyRow_n (n1 := 50) (n3 := 200) (sp := 0) (dp := 50 * c) (m := 50) _ _ (by omega) (by omega) (by omega) (by omega)]
      simp (disch := omega) only [lit32, bs, pl_e, gd_okI, nI_leI, nI_ltI, nI_eq, nI_add, pk_mul, pk_sub, nI_m1', nI_clamp, if_pos, if_neg, ↓reduceIte]
    · refine ⟨ho, by omega, fun i hi4 => ?_⟩
      by_cases e3 : i = c
      · subst e3
        refine ⟨n, ?_, ?_⟩
        · unfold upd; rw [if_pos rfl]
        · unfold updC
          rw [if_pos rfl]
          refine hm.congr (hw _) (fun k hk => ?_)
          show (if 50 * i ≤ 50 * i + k ∧ 50 * i + k < 50 * i + 50 then row (0 + (50 * i + k - 50 * i)) else _) = row k
          rw [if_pos (by omega)]
          exact congrArg _ (by omega)
      · have en : (o + i) % 4 ≠ (o + c) % 4 := by omega
        obtain ⟨n', h1, h2⟩ := hi i (by omega)
        refine ⟨n', ?_, ?_⟩
        · unfold upd; rw [if_neg en]; exact h1
        · unfold updC
          rw [if_neg en]
          refine h2.congr (fun _ _ => rfl) (fun k hk => ?_)
          show (if 50 * c ≤ 50 * i + k ∧ 50 * i + k < 50 * c + 50 then _ else past (50 * i + k)) = past (50 * i + k)
          rw [if_neg (by omega)]
