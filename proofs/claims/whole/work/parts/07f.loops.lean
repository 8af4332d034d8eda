/-! MATHEMATICS: the loops of a sweep, on both sides -/
def AgC (n : Nat) (t C : Nat → UInt64) : Prop := ∀ r a, r < n → a < n → t (7 * r + a) = C (7 * r + a)
def AgF (n : Nat) (t F : Nat → UInt64) : Prop := ∀ i, i < n → t i = F i
theorem AgC.ix {n : Nat} {t C : Nat → UInt64} (h : AgC n t C) (b : Bool) {i k : Nat} (hi : i < n) (hk : k < n) : t (ix b i k) = C (ix b i k) := by
  cases b
  · exact h k i hk hi
  · exact h i k hi hk
theorem vf_at (f : Nat → UInt64) (k : Nat) (x : UInt64) (j : Nat) : vf_upd f k x j = if j = k then x else f j := rfl
theorem at5_n {n r a : Nat} (hr : r < n) (ha : a < n) (hn : n ≤ 7) (t : Nat → UInt64) : f_X5_at (nI n) t (nI r) (nI a) = some (t (7 * r + a)) := by
  unfold f_X5_at
  rw [if_neg (nI_pos (by omega)), if_neg (by rw [nI_leI (by omega) (by omega)]; omega), if_neg (nI_pos (by omega)), if_neg (by rw [nI_leI (by omega) (by omega)]; omega), bs, if_neg (by decide), show (nI r * (7 : Int32)) = nI (r * 7) from pk_mul r 7, nI_add, gd_okI (by omega) (by omega), nI_clamp (by omega), show r * 7 + a = 7 * r + a by omega]
/-- sums of lines -/
theorem row5_n {n r : Nat} (hr : r < n) (hn : n ≤ 7) {t : Nat → UInt64} (hok : ∀ m, m ≤ n → ∃ u, Pd (sD (fun k => t (7 * r + k)) m) u) : f_X5_sumOfRow (nI n) t (nI r) = some (sD (fun k => t (7 * r + k)) n) := by
  unfold f_X5_sumOfRow
  have h := lp_cnt (body := f_X5_sumOfRow_L1 (nI r) (nI n) t) (fun j => sD (fun k => t (7 * r + k)) j) n (sD (fun k => t (7 * r + k)) n) (fun j hj => by
    obtain ⟨u, u1⟩ := hok (j + 1) (by omega)
    rw [sD] at u1
    rw [f_X5_sumOfRow_L1, if_neg (by rw [nI_leI (by omega) (by omega)]; omega), at5_n hr hj hn, bs, gd_t u1.ok, pl_e, pl_e, nI_1]
    rfl) (by
    rw [f_X5_sumOfRow_L1, if_pos (by rw [nI_leI (by omega) (by omega)]; omega)]) (by omega)
  change lpN _ FU (FP.dconst0, (0 : Int32)) = _ at h
  rw [h, bs]
theorem col5_n {n r : Nat} (hr : r < n) (hn : n ≤ 7) {t : Nat → UInt64} (hok : ∀ m, m ≤ n → ∃ u, Pd (sD (fun k => t (7 * k + r)) m) u) : f_X5_sumOfColumn (nI n) t (nI r) = some (sD (fun k => t (7 * k + r)) n) := by
  unfold f_X5_sumOfColumn
  have h := lp_cnt (body := f_X5_sumOfColumn_L1 (nI r) (nI n) t) (fun j => sD (fun k => t (7 * k + r)) j) n (sD (fun k => t (7 * k + r)) n) (fun j hj => by
    obtain ⟨u, u1⟩ := hok (j + 1) (by omega)
    rw [sD] at u1
    rw [f_X5_sumOfColumn_L1, if_neg (by rw [nI_leI (by omega) (by omega)]; omega), at5_n hj hr hn, bs, gd_t u1.ok, pl_e, pl_e, nI_1]
    rfl) (by
    rw [f_X5_sumOfColumn_L1, if_pos (by rw [nI_leI (by omega) (by omega)]; omega)]) (by omega)
  change lpN _ FU (FP.dconst0, (0 : Int32)) = _ at h
  rw [h, bs]
def fl01 (b : Bool) : Int32 := if b then 0 else 1
theorem sum10_n {z : Nat → Int32} {n r : Nat} (hz49 : z 49 = nI n) (b : Bool) (hr : r < n) (hn : n ≤ 7) {t : Nat → UInt64} (hok : ∀ m, m ≤ n → ∃ u, Pd (sD (fun k => t (ix b r k)) m) u) : f_X10_scaledSum z t (nI r) (fl01 b) = some (sD (fun k => t (ix b r k)) n) := by
  unfold f_X10_scaledSum
  have h := lp_cnt (body := f_X10_scaledSum_L1 (nI r) (fl01 b) z t) (fun j => sD (fun k => t (ix b r k)) j) n (sD (fun k => t (ix b r k)) n) (fun j hj => by
    obtain ⟨u, u1⟩ := hok (j + 1) (by omega)
    rw [sD] at u1
    rw [f_X10_scaledSum_L1, gd_t (by decide), mz49 hz49, if_neg (by rw [nI_leI (by omega) (by omega)]; omega)]
    cases b
    · have u2 : Pd (FP.dadd (sD (fun k => t (ix false r k)) j) (t (7 * j + r))) u := u1
      rw [if_neg (by decide), show ((7 : Int32) * nI j) = nI (7 * j) from pk_mul 7 j, nI_add, gd_okI (by omega) (by omega)]
      simp (disch := omega) only [nI_clamp]
      rw [gd_t u2.ok, pl_e, pl_e, nI_1]
      rfl
    · have u2 : Pd (FP.dadd (sD (fun k => t (ix true r k)) j) (t (7 * r + j))) u := u1
      rw [if_pos (by decide), show ((7 : Int32) * nI r) = nI (7 * r) from pk_mul 7 r, nI_add, gd_okI (by omega) (by omega)]
      simp (disch := omega) only [nI_clamp]
      rw [gd_t u2.ok, pl_e, pl_e, nI_1]
      rfl) (by
    rw [f_X10_scaledSum_L1, gd_t (by decide), mz49 hz49, if_pos (by rw [nI_leI (by omega) (by omega)]; omega)]) (by omega)
  change lpN _ FU (FP.dconst0, (0 : Int32)) = _ at h
  rw [h, bs]
/-- division of a line -/
theorem divide5_n {n r a : Nat} (hr : r < n) (ha : a < n) (hn : n ≤ 7) {t : Nat → UInt64} {s : UInt64} {v u : Nat} (hs : Pd s v) (hv : 0 < v) (hu : Pd (FP.ddiv (t (7 * r + a)) s) u) : f_X5_divide (nI n) t (nI r) (nI a) s = some (vf_upd t (7 * r + a) (FP.ddiv (t (7 * r + a)) s)) := by
  unfold f_X5_divide
  rw [if_neg (fun hc => by have := (dcmp_le hs Pd_0 _).mp hc; omega), if_neg (nI_pos (by omega)), if_neg (by rw [nI_leI (by omega) (by omega)]; omega), if_neg (nI_pos (by omega)), if_neg (by rw [nI_leI (by omega) (by omega)]; omega), show (nI r * (7 : Int32)) = nI (r * 7) from pk_mul r 7, nI_add, gd_okI (by omega) (by omega)]
  simp (disch := omega) only [nI_clamp]
  rw [show r * 7 + a = 7 * r + a by omega, gd_t hu.ok, gd_okI (by omega) (by omega), pl_e]
theorem rowdiv5_n {n r : Nat} (hr : r < n) (hn : n ≤ 7) {t : Nat → UInt64} {s : UInt64} {v : Nat} (hs : Pd s v) (hv : 0 < v) (hu : ∀ k, k < n → ∃ u, Pd (FP.ddiv (t (7 * r + k)) s) u) : ∃ t', f_X5_divideRow (nI n) t (nI r) s = some t' ∧ ∀ i a, i < n → a < n → t' (7 * i + a) = if i = r then FP.ddiv (t (7 * r + a)) s else t (7 * i + a) := by
  unfold f_X5_divideRow
  obtain ⟨t', e1, e2⟩ := lp_cntE (body := f_X5_divideRow_L1 (nI r) s (nI n)) (fun j w => ∀ i a, i < n → a < n → w (7 * i + a) = if i = r ∧ a < j then FP.ddiv (t (7 * r + a)) s else t (7 * i + a)) n (fun w => ∀ i a, i < n → a < n → w (7 * i + a) = if i = r then FP.ddiv (t (7 * r + a)) s else t (7 * i + a)) (fun j w hj hw => by
    obtain ⟨u, u1⟩ := hu j hj
    have hwj : w (7 * r + j) = t (7 * r + j) := by rw [hw r j hr hj, if_neg (by omega)]
    rw [f_X5_divideRow_L1, if_neg (by rw [nI_leI (by omega) (by omega)]; omega), divide5_n hr hj hn hs hv (by rw [hwj]; exact u1), bs, pl_e, nI_1]
    refine ⟨_, rfl, fun i a hi ha => ?_⟩
    rw [vf_at, hwj, hw i a hi ha]
    by_cases e : i = r ∧ a = j
    · obtain ⟨rfl, rfl⟩ := e
      rw [if_pos rfl, if_pos ⟨rfl, by omega⟩]
    · rw [if_neg (by omega)]
      by_cases e2 : i = r ∧ a < j
      · rw [if_pos e2, if_pos ⟨e2.1, by omega⟩]
      · rw [if_neg e2, if_neg (by omega)]) (fun w hw => by
    rw [f_X5_divideRow_L1, if_pos (by rw [nI_leI (by omega) (by omega)]; omega)]
    refine ⟨w, rfl, fun i a hi ha => ?_⟩
    rw [hw i a hi ha]
    by_cases e : i = r
    · rw [if_pos ⟨e, ha⟩, if_pos e]
    · rw [if_neg (fun hc => e hc.1), if_neg e]) t (fun i a hi ha => by rw [if_neg (by omega)]) (by omega)
  change lpN _ FU ((0 : Int32), t) = _ at e1
  rw [e1, bs]
  exact ⟨t', rfl, e2⟩
theorem coldiv5_n {n r : Nat} (hr : r < n) (hn : n ≤ 7) {t : Nat → UInt64} {s : UInt64} {v : Nat} (hs : Pd s v) (hv : 0 < v) (hu : ∀ k, k < n → ∃ u, Pd (FP.ddiv (t (7 * k + r)) s) u) : ∃ t', f_X5_divideColumn (nI n) t (nI r) s = some t' ∧ ∀ i a, i < n → a < n → t' (7 * i + a) = if a = r then FP.ddiv (t (7 * i + r)) s else t (7 * i + a) := by
  unfold f_X5_divideColumn
  obtain ⟨t', e1, e2⟩ := lp_cntE (body := f_X5_divideColumn_L1 (nI r) s (nI n)) (fun j w => ∀ i a, i < n → a < n → w (7 * i + a) = if a = r ∧ i < j then FP.ddiv (t (7 * i + r)) s else t (7 * i + a)) n (fun w => ∀ i a, i < n → a < n → w (7 * i + a) = if a = r then FP.ddiv (t (7 * i + r)) s else t (7 * i + a)) (fun j w hj hw => by
    obtain ⟨u, u1⟩ := hu j hj
    have hwj : w (7 * j + r) = t (7 * j + r) := by rw [hw j r hj hr, if_neg (by omega)]
    rw [f_X5_divideColumn_L1, if_neg (by rw [nI_leI (by omega) (by omega)]; omega), divide5_n hj hr hn hs hv (by rw [hwj]; exact u1), bs, pl_e, nI_1]
    refine ⟨_, rfl, fun i a hi ha => ?_⟩
    rw [vf_at, hwj, hw i a hi ha]
    by_cases e : a = r ∧ i = j
    · obtain ⟨rfl, rfl⟩ := e
      rw [if_pos rfl, if_pos ⟨rfl, by omega⟩]
    · rw [if_neg (by omega)]
      by_cases e2 : a = r ∧ i < j
      · rw [if_pos e2, if_pos ⟨e2.1, by omega⟩]
      · rw [if_neg e2, if_neg (by omega)]) (fun w hw => by
    rw [f_X5_divideColumn_L1, if_pos (by rw [nI_leI (by omega) (by omega)]; omega)]
    refine ⟨w, rfl, fun i a hi ha => ?_⟩
    rw [hw i a hi ha]
    by_cases e : a = r
    · rw [if_pos ⟨e, hi⟩, if_pos e]
    · rw [if_neg (fun hc => e hc.1), if_neg e]) t (fun i a hi ha => by rw [if_neg (by omega)]) (by omega)
  change lpN _ FU ((0 : Int32), t) = _ at e1
  rw [e1, bs]
  exact ⟨t', rfl, e2⟩
/-- the line of a cell -/
def lof (b : Bool) (r a : Nat) : Nat := if b then r else a
theorem linediv10_n {z : Nat → Int32} {n i : Nat} (hz49 : z 49 = nI n) (b : Bool) (hi : i < n) (hn : n ≤ 7) {t : Nat → UInt64} {s : UInt64} (hu : ∀ k, k < n → ∃ u, Pd (FP.ddiv (t (ix b i k)) s) u) : ∃ t', lpN (f_X10_sweepLine_L1 (nI i) (fl01 b) s z) FU ((0 : Int32), t) = some t' ∧ ∀ r a, r < n → a < n → t' (7 * r + a) = if lof b r a = i then FP.ddiv (t (7 * r + a)) s else t (7 * r + a) := by
  obtain ⟨t', e1, e2⟩ := lp_cntE (body := f_X10_sweepLine_L1 (nI i) (fl01 b) s z) (fun j w => ∀ r a, r < n → a < n → w (7 * r + a) = if lof b r a = i ∧ lof (!b) r a < j then FP.ddiv (t (7 * r + a)) s else t (7 * r + a)) n (fun w => ∀ r a, r < n → a < n → w (7 * r + a) = if lof b r a = i then FP.ddiv (t (7 * r + a)) s else t (7 * r + a)) (fun j w hj hw => by
    obtain ⟨u, u1⟩ := hu j hj
    have hy : Option.bind (if fl01 b = 0 then some (((7 : Int32) * nI i) + nI j) else some (((7 : Int32) * nI j) + nI i)) (fun y_6 => gd (okI y_6 49) (gd (okD (FP.ddiv (w y_6.toNatClampNeg) s)) (gd (okI y_6 49) (pl ((vf_upd w y_6.toNatClampNeg (FP.ddiv (w y_6.toNatClampNeg) s)) : Nat → UInt64) (fun t_scaled_10 => pl ((nI j + (1 : Int32)) : Int32) (fun x5_11 => (some (.inl (x5_11, t_scaled_10)) : Option ((Int32 × (Nat → UInt64)) ⊕ (Nat → UInt64)))))))) ) = some (.inl (nI (j + 1), vf_upd w (ix b i j) (FP.ddiv (w (ix b i j)) s))) := by
      have hwj : w (ix b i j) = t (ix b i j) := by
        cases b
        · show w (7 * j + i) = t (7 * j + i)
          rw [hw j i hj hi, if_neg (fun hc => by have := hc.2; change j < j at this; omega)]
        · show w (7 * i + j) = t (7 * i + j)
          rw [hw i j hi hj, if_neg (fun hc => by have := hc.2; change j < j at this; omega)]
      have e0 : (if fl01 b = 0 then some (((7 : Int32) * nI i) + nI j) else some (((7 : Int32) * nI j) + nI i)) = some (nI (ix b i j)) := by
        cases b
        · rw [if_neg (by decide), show ((7 : Int32) * nI j) = nI (7 * j) from pk_mul 7 j, nI_add]
          rfl
        · rw [if_pos (by decide), show ((7 : Int32) * nI i) = nI (7 * i) from pk_mul 7 i, nI_add]
          rfl
      have hix : ix b i j < 49 := by
        cases b
        · show 7 * j + i < 49
          omega
        · show 7 * i + j < 49
          omega
      rw [e0, bs, gd_okI hix (by omega), gd_okI hix (by omega), nI_clamp (by omega), hwj, gd_t u1.ok, pl_e, pl_e, nI_1]
    rw [f_X10_sweepLine_L1, gd_t (by decide), mz49 hz49, if_neg (by rw [nI_leI (by omega) (by omega)]; omega), hy]
    refine ⟨_, rfl, fun r a hr ha => ?_⟩
    rw [vf_at]
    cases b
    · change (if 7 * r + a = 7 * j + i then FP.ddiv (w (7 * j + i)) s else w (7 * r + a)) = if a = i ∧ r < j + 1 then FP.ddiv (t (7 * r + a)) s else t (7 * r + a)
      have h1 := hw r a hr ha
      change w (7 * r + a) = if a = i ∧ r < j then FP.ddiv (t (7 * r + a)) s else t (7 * r + a) at h1
      have h2 := hw j i hj hi
      change w (7 * j + i) = if i = i ∧ j < j then FP.ddiv (t (7 * j + i)) s else t (7 * j + i) at h2
      rw [if_neg (by omega)] at h2
      by_cases e : r = j ∧ a = i
      · obtain ⟨rfl, rfl⟩ := e
        rw [if_pos rfl, if_pos ⟨rfl, by omega⟩, h2]
      · rw [if_neg (by omega), h1]
        by_cases e2 : a = i ∧ r < j
        · rw [if_pos e2, if_pos ⟨e2.1, by omega⟩]
        · rw [if_neg e2, if_neg (by omega)]
    · change (if 7 * r + a = 7 * i + j then FP.ddiv (w (7 * i + j)) s else w (7 * r + a)) = if r = i ∧ a < j + 1 then FP.ddiv (t (7 * r + a)) s else t (7 * r + a)
      have h1 := hw r a hr ha
      change w (7 * r + a) = if r = i ∧ a < j then FP.ddiv (t (7 * r + a)) s else t (7 * r + a) at h1
      have h2 := hw i j hi hj
      change w (7 * i + j) = if i = i ∧ j < j then FP.ddiv (t (7 * i + j)) s else t (7 * i + j) at h2
      rw [if_neg (by omega)] at h2
      by_cases e : r = i ∧ a = j
      · obtain ⟨rfl, rfl⟩ := e
        rw [if_pos rfl, if_pos ⟨rfl, by omega⟩, h2]
      · rw [if_neg (by omega), h1]
        by_cases e2 : r = i ∧ a < j
        · rw [if_pos e2, if_pos ⟨e2.1, by omega⟩]
        · rw [if_neg e2, if_neg (by omega)]) (fun w hw => by
    rw [f_X10_sweepLine_L1, gd_t (by decide), mz49 hz49, if_pos (by rw [nI_leI (by omega) (by omega)]; omega)]
    refine ⟨w, rfl, fun r a hr ha => ?_⟩
    rw [hw r a hr ha]
    have hl : lof (!b) r a < n := by cases b <;> assumption
    by_cases e : lof b r a = i
    · rw [if_pos ⟨e, hl⟩, if_pos e]
    · rw [if_neg (fun hc => e hc.1), if_neg e]) t (fun r a hr ha => by rw [if_neg (by omega)]) (by omega)
  exact ⟨t', e1, e2⟩
/-- half a sweep under way: the lines below j are done -/
def Md (n : Nat) (b : Bool) (C F : Nat → UInt64) (j : Nat) (t f : Nat → UInt64) : Prop := (∀ r a, r < n → a < n → t (7 * r + a) = if lof b r a < j then hs n b C (7 * r + a) else C (7 * r + a)) ∧ ∀ i, i < n → f i = if i < j then fS n b C F i else F i
theorem Md.line {n : Nat} {b : Bool} {C F t f : Nat → UInt64} {j : Nat} (h : Md n b C F j t f) (hj : j < n) {k : Nat} (hk : k < n) : t (ix b j k) = C (ix b j k) := by
  cases b
  · show t (7 * k + j) = C (7 * k + j)
    rw [h.1 k j hk hj, if_neg (fun hc => by change j < j at hc; omega)]
  · show t (7 * j + k) = C (7 * j + k)
    rw [h.1 j k hj hk, if_neg (fun hc => by change j < j at hc; omega)]
theorem Md.zero {n : Nat} {b : Bool} {C F t f : Nat → UInt64} (hC : AgC n t C) (hF : AgF n f F) : Md n b C F 0 t f := ⟨fun r a hr ha => by rw [if_neg (by omega)]; exact hC r a hr ha, fun i hi => by rw [if_neg (by omega)]; exact hF i hi⟩
theorem Md.full {n : Nat} {b : Bool} {C F t f : Nat → UInt64} (h : Md n b C F n t f) : AgC n t (hs n b C) ∧ AgF n f (fS n b C F) := ⟨fun r a hr ha => by
  rw [h.1 r a hr ha, if_pos]
  cases b <;> assumption, fun i hi => by rw [h.2 i hi, if_pos hi]⟩
theorem hs_at {n : Nat} {b : Bool} {C : Nat → UInt64} {r a : Nat} (hr : r < 7) (ha : a < 7) : hs n b C (7 * r + a) = FP.ddiv (C (7 * r + a)) (ln C b n (lof b r a)) := by
  cases b
  · exact hs_ix (b := false) (i := a) (k := r) ha hr
  · exact hs_ix (b := true) (i := r) (k := a) hr ha
theorem Md.next {n : Nat} {b : Bool} {C F t f t' f' : Nat → UInt64} {j : Nat} (hn : n ≤ 7) (h : Md n b C F j t f) (hj : j < n) (ht : ∀ r a, r < n → a < n → t' (7 * r + a) = if lof b r a = j then FP.ddiv (t (7 * r + a)) (ln C b n j) else t (7 * r + a)) (hf : ∀ i, i < n → f' i = if i = j then FP.dmul (f j) (ln C b n j) else f i) : Md n b C F (j + 1) t' f' := by
  refine ⟨fun r a hr ha => ?_, fun i hi => ?_⟩
  · rw [ht r a hr ha, h.1 r a hr ha]
    by_cases e : lof b r a = j
    · rw [if_pos e, if_neg (by omega), if_pos (by omega), hs_at (by omega) (by omega), e]
    · rw [if_neg e]
      by_cases e2 : lof b r a < j
      · rw [if_pos e2, if_pos (by omega)]
      · rw [if_neg e2, if_neg (by omega)]
  · rw [hf i hi, h.2 i hi, h.2 j hj]
    by_cases e : i = j
    · rw [if_pos e, if_neg (by omega), if_pos (by omega), e]
      rfl
    · rw [if_neg e]
      by_cases e2 : i < j
      · rw [if_pos e2, if_pos (by omega)]
      · rw [if_neg e2, if_neg (by omega)]
/-- the class's rows -/
theorem rows5_n {n : Nat} {C F t f : Nat → UInt64} (hn : n ≤ 7) (hG : Gd n true C F) (hC : AgC n t C) (hF : AgF n f F) : ∃ t' f', lpN (f_X5_sweep_L1 (nI n)) FU ((0 : Int32), t, f) = some (t', f') ∧ AgC n t' (hs n true C) ∧ AgF n f' (fS n true C F) := by
  obtain ⟨r, e1, e2⟩ := lp_cntE (body := f_X5_sweep_L1 (nI n)) (fun j (w : (Nat → UInt64) × (Nat → UInt64)) => Md n true C F j w.1 w.2) n (fun w => AgC n w.1 (hs n true C) ∧ AgF n w.2 (fS n true C F)) (fun j w hj hw => by
    obtain ⟨t, f⟩ := w
    dsimp only at hw
    obtain ⟨g1, ⟨s, g2, g3⟩, g4, u5, g5⟩ := hG j hj
    have hl : ∀ m, m ≤ n → sD (fun k => t (7 * j + k)) m = sD (fun k => C (ix true j k)) m := fun m hm => sD_congr (fun k hk => hw.line hj (by omega))
    have hln : sD (fun k => t (7 * j + k)) n = ln C true n j := hl n (Nat.le_refl _)
    have hfj : f j = F j := by rw [hw.2 j hj, if_neg (by omega)]
    rw [f_X5_sweep_L1, if_neg (by rw [nI_leI (by omega) (by omega)]; omega), row5_n hj hn (fun m hm => by rw [hl m hm]; exact g1 m hm), bs, hln]
    obtain ⟨t', t1, t2⟩ := rowdiv5_n (t := t) hj hn g2 g3 (fun k hk => by
      have := hw.line hj hk
      change t (7 * j + k) = C (7 * j + k) at this
      rw [this]
      exact g4 k hk)
    rw [t1, bs, gd_okI (by omega) (by omega)]
    simp (disch := omega) only [nI_clamp]
    rw [hfj, gd_t g5.ok, gd_okI (by omega) (by omega), pl_e, pl_e, nI_1]
    refine ⟨(t', vf_upd f j (FP.dmul (F j) (ln C true n j))), rfl, hw.next hn hj (fun r a hr ha => ?_) (fun i hi => by
      show vf_upd f j _ i = _
      rw [vf_at, hfj])⟩
    show t' (7 * r + a) = _
    rw [t2 r a hr ha]
    by_cases e : r = j
    · rw [if_pos e, if_pos (show lof true r a = j from e), e]
    · rw [if_neg e, if_neg (show ¬ lof true r a = j from e)]) (fun w hw => by
    obtain ⟨t, f⟩ := w
    rw [f_X5_sweep_L1, if_pos (by rw [nI_leI (by omega) (by omega)]; omega)]
    exact ⟨(t, f), rfl, hw.full⟩) (t, f) (Md.zero hC hF) (by omega)
  exact ⟨r.1, r.2, e1, e2⟩
theorem cols5_n {n : Nat} {C F t f : Nat → UInt64} (hn : n ≤ 7) (hG : Gd n false C F) (hC : AgC n t C) (hF : AgF n f F) : ∃ t' f', lpN (f_X5_sweep_L2 (nI n)) FU ((0 : Int32), t, f) = some (t', f') ∧ AgC n t' (hs n false C) ∧ AgF n f' (fS n false C F) := by
  obtain ⟨r, e1, e2⟩ := lp_cntE (body := f_X5_sweep_L2 (nI n)) (fun j (w : (Nat → UInt64) × (Nat → UInt64)) => Md n false C F j w.1 w.2) n (fun w => AgC n w.1 (hs n false C) ∧ AgF n w.2 (fS n false C F)) (fun j w hj hw => by
    obtain ⟨t, f⟩ := w
    dsimp only at hw
    obtain ⟨g1, ⟨s, g2, g3⟩, g4, u5, g5⟩ := hG j hj
    have hl : ∀ m, m ≤ n → sD (fun k => t (7 * k + j)) m = sD (fun k => C (ix false j k)) m := fun m hm => sD_congr (fun k hk => hw.line hj (by omega))
    have hln : sD (fun k => t (7 * k + j)) n = ln C false n j := hl n (Nat.le_refl _)
    have hfj : f j = F j := by rw [hw.2 j hj, if_neg (by omega)]
    rw [f_X5_sweep_L2, if_neg (by rw [nI_leI (by omega) (by omega)]; omega), col5_n hj hn (fun m hm => by rw [hl m hm]; exact g1 m hm), bs, hln]
    obtain ⟨t', t1, t2⟩ := coldiv5_n (t := t) hj hn g2 g3 (fun k hk => by
      have := hw.line hj hk
      change t (7 * k + j) = C (7 * k + j) at this
      rw [this]
      exact g4 k hk)
    rw [t1, bs, gd_okI (by omega) (by omega)]
    simp (disch := omega) only [nI_clamp]
    rw [hfj, gd_t g5.ok, gd_okI (by omega) (by omega), pl_e, pl_e, nI_1]
    refine ⟨(t', vf_upd f j (FP.dmul (F j) (ln C false n j))), rfl, hw.next hn hj (fun r a hr ha => ?_) (fun i hi => by
      show vf_upd f j _ i = _
      rw [vf_at, hfj])⟩
    show t' (7 * r + a) = _
    rw [t2 r a hr ha]
    by_cases e : a = j
    · rw [if_pos e, if_pos (show lof false r a = j from e), e]
    · rw [if_neg e, if_neg (show ¬ lof false r a = j from e)]) (fun w hw => by
    obtain ⟨t, f⟩ := w
    rw [f_X5_sweep_L2, if_pos (by rw [nI_leI (by omega) (by omega)]; omega)]
    exact ⟨(t, f), rfl, hw.full⟩) (t, f) (Md.zero hC hF) (by omega)
  exact ⟨r.1, r.2, e1, e2⟩
/-- one line of the model -/
theorem line10_n {z : Nat → Int32} {n j : Nat} (hz49 : z 49 = nI n) (b : Bool) {C F t f g : Nat → UInt64} (hn : n ≤ 7) (hG : Gd n b C F) (hj : j < n) (hw : Md n b C F j t f) : ∃ t' f', f_X10_sweepLine z t (if b then f else g) (if b then g else f) (nI j) (fl01 b) = some (t', (if b then f' else g), (if b then g else f')) ∧ Md n b C F (j + 1) t' f' := by
  obtain ⟨g1, ⟨s, g2, g3⟩, g4, u5, g5⟩ := hG j hj
  have hl : ∀ m, m ≤ n → sD (fun k => t (ix b j k)) m = sD (fun k => C (ix b j k)) m := fun m hm => sD_congr (fun k hk => hw.line hj (by omega))
  have hln : sD (fun k => t (ix b j k)) n = ln C b n j := hl n (Nat.le_refl _)
  have hfj : f j = F j := by rw [hw.2 j hj, if_neg (by omega)]
  unfold f_X10_sweepLine
  rw [sum10_n hz49 b hj hn (fun m hm => by rw [hl m hm]; exact g1 m hm), bs, hln]
  obtain ⟨t', t1, t2⟩ := linediv10_n hz49 b hj hn (t := t) (s := ln C b n j) (fun k hk => by rw [hw.line hj hk]; exact g4 k hk)
  rw [t1, bs]
  refine ⟨t', vf_upd f j (FP.dmul (F j) (ln C b n j)), ?_, hw.next hn hj t2 (fun i hi => by rw [vf_at, hfj])⟩
  cases b
  · rw [if_neg (by decide), gd_okI (by omega) (by omega)]
    simp (disch := omega) only [nI_clamp]
    show gd (okD (FP.dmul (f j) (ln C false n j))) _ = _
    rw [hfj, gd_t g5.ok, gd_okI (by omega) (by omega), pl_e]
    exact congrArg (fun v => some (t', g, vf_upd f j (FP.dmul v (ln C false n j)))) hfj
  · rw [if_pos (by decide), gd_okI (by omega) (by omega)]
    simp (disch := omega) only [nI_clamp]
    show gd (okD (FP.dmul (f j) (ln C true n j))) _ = _
    rw [hfj, gd_t g5.ok, gd_okI (by omega) (by omega), pl_e]
    exact congrArg (fun v => some (t', vf_upd f j (FP.dmul v (ln C true n j)), g)) hfj
theorem rows10_n {z : Nat → Int32} {n : Nat} (hz49 : z 49 = nI n) {C F t f g : Nat → UInt64} (hn : n ≤ 7) (hG : Gd n true C F) (hC : AgC n t C) (hF : AgF n f F) : ∃ t' f', lpN (f_X10_sweep_L4 z) FU ((0 : Int32), t, f, g) = some (t', f', g) ∧ AgC n t' (hs n true C) ∧ AgF n f' (fS n true C F) := by
  obtain ⟨r, e1, e2, e3⟩ := lp_cntE (body := f_X10_sweep_L4 z) (fun j (w : (Nat → UInt64) × (Nat → UInt64) × (Nat → UInt64)) => Md n true C F j w.1 w.2.1 ∧ w.2.2 = g) n (fun w => (AgC n w.1 (hs n true C) ∧ AgF n w.2.1 (fS n true C F)) ∧ w.2.2 = g) (fun j w hj hw => by
    obtain ⟨t, f, g'⟩ := w
    obtain ⟨hw, rfl⟩ := hw
    dsimp only at hw
    obtain ⟨t', f', q1, q2⟩ := line10_n hz49 true (g := g') hn hG hj hw
    change f_X10_sweepLine z t f g' (nI j) (0 : Int32) = some (t', f', g') at q1
    rw [f_X10_sweep_L4, gd_t (by decide), mz49 hz49, if_neg (by rw [nI_leI (by omega) (by omega)]; omega), q1, bs]
    dsimp only
    rw [pl_e, nI_1]
    exact ⟨(t', f', g'), rfl, q2, rfl⟩) (fun w hw => by
    obtain ⟨t, f, g'⟩ := w
    rw [f_X10_sweep_L4, gd_t (by decide), mz49 hz49, if_pos (by rw [nI_leI (by omega) (by omega)]; omega)]
    exact ⟨(t, f, g'), rfl, hw.1.full, hw.2⟩) (t, f, g) ⟨Md.zero hC hF, rfl⟩ (by omega)
  obtain ⟨t', f', g'⟩ := r
  dsimp only at e3
  subst e3
  exact ⟨t', f', e1, e2⟩
theorem cols10_n {z : Nat → Int32} {n : Nat} (hz49 : z 49 = nI n) {C F t f g : Nat → UInt64} (hn : n ≤ 7) (hG : Gd n false C F) (hC : AgC n t C) (hF : AgF n f F) : ∃ t' f', lpN (f_X10_sweep_L5 z) FU ((0 : Int32), t, g, f) = some (t', g, f') ∧ AgC n t' (hs n false C) ∧ AgF n f' (fS n false C F) := by
  obtain ⟨r, e1, e2, e3⟩ := lp_cntE (body := f_X10_sweep_L5 z) (fun j (w : (Nat → UInt64) × (Nat → UInt64) × (Nat → UInt64)) => Md n false C F j w.1 w.2.2 ∧ w.2.1 = g) n (fun w => (AgC n w.1 (hs n false C) ∧ AgF n w.2.2 (fS n false C F)) ∧ w.2.1 = g) (fun j w hj hw => by
    obtain ⟨t, g', f⟩ := w
    obtain ⟨hw, rfl⟩ := hw
    dsimp only at hw
    obtain ⟨t', f', q1, q2⟩ := line10_n hz49 false (g := g') hn hG hj hw
    change f_X10_sweepLine z t g' f (nI j) (1 : Int32) = some (t', g', f') at q1
    rw [f_X10_sweep_L5, gd_t (by decide), mz49 hz49, if_neg (by rw [nI_leI (by omega) (by omega)]; omega), q1, bs]
    dsimp only
    rw [pl_e, nI_1]
    exact ⟨(t', g', f'), rfl, q2, rfl⟩) (fun w hw => by
    obtain ⟨t, g', f⟩ := w
    rw [f_X10_sweep_L5, gd_t (by decide), mz49 hz49, if_pos (by rw [nI_leI (by omega) (by omega)]; omega)]
    exact ⟨(t, g', f), rfl, hw.1.full, hw.2⟩) (t, g, f) ⟨Md.zero hC hF, rfl⟩ (by omega)
  obtain ⟨t', g', f'⟩ := r
  dsimp only at e3
  subst e3
  exact ⟨t', f', e1, e2⟩
