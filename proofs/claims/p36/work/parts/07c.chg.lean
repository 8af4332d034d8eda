/-! MATHEMATICS: what the changes do to the values of a matrix -/
def gl (g : Int32 → Int64) (z : Nat → Int32) (r a : Nat) : Int64 := g (z (7 * r + a))
theorem cl_gl (z : Nat → Int32) : cl z = gl Int32.toInt64 z := rfl
theorem mk_gl (z : Nat → Int32) : mk z = gl (fun x => if x = 0 then 0 else 1) z := rfl
theorem gl_mkz {g : Int32 → Int64} {n : Nat} {f : Nat → Nat → Int32} {r a : Nat} (hr : r < 7) (ha : a < 7) : gl g (mkz n f) r a = g (f r a) := by
  unfold gl
  rw [mkz_at hr ha]
theorem rows_val (b : Bool) (g : Int32 → Int64) {n i j : Nat} {z : Nat → Int32} (hn : n ≤ 7) (hi : i < n) (hj : j < n) : Bk (wt b) (gl g (mkz n (fun r q => z (7 * sw i j r + q)))) (List.range n) (tb (2 ^ n - 1)) = (if i = j then 1 else sgb b) * Bk (wt b) (gl g z) (List.range n) (tb (2 ^ n - 1)) := by
  rw [← Bk_rows b (gl g z) hn hi hj]
  exact Bk_full (wt b) hn (fun r a hr ha => by rw [gl_mkz (by omega) (by omega)]; rfl)
theorem turn_val (b : Bool) {n : Nat} (hn : n ≤ 7) (cell : Nat → Nat → Int64) : Bk (wt b) (fun x y => cell y x) (List.range n) (tb (2 ^ n - 1)) = Bk (wt b) cell (List.range n) (tb (2 ^ n - 1)) := by
  have h := Bk_turn b cell (cntB (tb (2 ^ n - 1)) 7) (tb (2 ^ n - 1)) (tb (2 ^ n - 1)) rfl
  rw [fl_full n hn] at h
  exact h
theorem turned_val (b : Bool) (g : Int32 → Int64) {n : Nat} {z : Nat → Int32} (hn : n ≤ 7) : Bk (wt b) (gl g (mkz n (fun r q => z (7 * q + r)))) (List.range n) (tb (2 ^ n - 1)) = Bk (wt b) (gl g z) (List.range n) (tb (2 ^ n - 1)) := by
  rw [← turn_val b hn (gl g z)]
  exact Bk_full (wt b) hn (fun r a hr ha => by rw [gl_mkz (by omega) (by omega)]; rfl)
theorem cols_val (b : Bool) (g : Int32 → Int64) {n i j : Nat} {z : Nat → Int32} (hn : n ≤ 7) (hi : i < n) (hj : j < n) : Bk (wt b) (gl g (mkz n (fun r q => z (7 * r + sw i j q)))) (List.range n) (tb (2 ^ n - 1)) = (if i = j then 1 else sgb b) * Bk (wt b) (gl g z) (List.range n) (tb (2 ^ n - 1)) := by
  have e1 : Bk (wt b) (gl g (mkz n (fun r q => z (7 * r + sw i j q)))) (List.range n) (tb (2 ^ n - 1)) = Bk (wt b) (fun r a => gl g z r (sw i j a)) (List.range n) (tb (2 ^ n - 1)) := Bk_full (wt b) hn (fun r a hr ha => by rw [gl_mkz (by omega) (by omega)]; rfl)
  rw [e1, ← turn_val b hn (fun r a => gl g z r (sw i j a)), ← turn_val b hn (gl g z)]
  exact Bk_rows b (fun x y => gl g z y x) hn hi hj (tb (2 ^ n - 1))
theorem one_f (p : Prop) [Decidable p] (x : Int64) : (if p then 1 else sgb false) * x = x := by
  have : (if p then (1 : Int64) else sgb false) = 1 := by split <;> rfl
  rw [this]
  grind
theorem one_t (p : Prop) [Decidable p] (x : Int64) : (if p then 1 else sgb true) * x = if p then x else -x := by
  by_cases h : p
  · rw [if_pos h, if_pos h]; grind
  · rw [if_neg h, if_neg h]
    show -1 * x = -x
    grind
theorem PM_rows {n i j : Nat} {z : Nat → Int32} (hn : n ≤ 7) (hi : i < n) (hj : j < n) : PM n (mkz n (fun r q => z (7 * sw i j r + q))) = PM n z := by
  unfold PM
  rw [cl_gl, rows_val false _ hn hi hj, one_f]
  rfl
theorem DT_rows {n i j : Nat} {z : Nat → Int32} (hn : n ≤ 7) (hi : i < n) (hj : j < n) : DT n (mkz n (fun r q => z (7 * sw i j r + q))) = if i = j then DT n z else - DT n z := by
  unfold DT
  rw [cl_gl, rows_val true _ hn hi hj, one_t]
  rfl
theorem PM_cols {n i j : Nat} {z : Nat → Int32} (hn : n ≤ 7) (hi : i < n) (hj : j < n) : PM n (mkz n (fun r q => z (7 * r + sw i j q))) = PM n z := by
  unfold PM
  rw [cl_gl, cols_val false _ hn hi hj, one_f]
  rfl
theorem DT_cols {n i j : Nat} {z : Nat → Int32} (hn : n ≤ 7) (hi : i < n) (hj : j < n) : DT n (mkz n (fun r q => z (7 * r + sw i j q))) = if i = j then DT n z else - DT n z := by
  unfold DT
  rw [cl_gl, cols_val true _ hn hi hj, one_t]
  rfl
theorem PM_turn {n : Nat} {z : Nat → Int32} (hn : n ≤ 7) : PM n (mkz n (fun r q => z (7 * q + r))) = PM n z := by
  unfold PM
  rw [cl_gl, turned_val false _ hn]
  rfl
theorem DT_turn {n : Nat} {z : Nat → Int32} (hn : n ≤ 7) : DT n (mkz n (fun r q => z (7 * q + r))) = DT n z := by
  unfold DT
  rw [cl_gl, turned_val true _ hn]
  rfl
theorem pcf : ∀ n, n ≤ 7 → pc (2 ^ n - 1) = n := by decide +kernel
theorem WD_Bk {n : Nat} (hn : n ≤ 7) (z : Nat → Int32) : nI (WD n z) = (Bk (wt false) (mk z) (List.range n) (tb (2 ^ n - 1))).toInt32 := by
  have h := (BW_nat z (2 ^ n - 1)).2
  unfold BW cN at h
  rw [pcf n hn, fl_full n hn] at h
  unfold WD
  rw [EW_zero hn]
  exact h.symm
theorem WD_rows {n i j : Nat} {z : Nat → Int32} (hn : n ≤ 7) (hi : i < n) (hj : j < n) : nI (WD n (mkz n (fun r q => z (7 * sw i j r + q)))) = nI (WD n z) := by
  rw [WD_Bk hn, WD_Bk hn, mk_gl, mk_gl, rows_val false _ hn hi hj, one_f]
theorem WD_cols {n i j : Nat} {z : Nat → Int32} (hn : n ≤ 7) (hi : i < n) (hj : j < n) : nI (WD n (mkz n (fun r q => z (7 * r + sw i j q)))) = nI (WD n z) := by
  rw [WD_Bk hn, WD_Bk hn, mk_gl, mk_gl, cols_val false _ hn hi hj, one_f]
theorem RK_turn {n k : Nat} {z : Nat → Int32} (hn : n ≤ 7) : RK n (mkz n (fun r q => z (7 * q + r))) k = RK n z k := by
  unfold RK
  rw [← sums_eq, ← sums_eq]
  congr 1
  have e1 : sL (fun R => if pc R = k then sL (fun C => if pc C = k then Bk (wt false) (mk (mkz n (fun r q => z (7 * q + r)))) (fl (tb R) 7) (tb C) else 0) (2 ^ n) else 0) (2 ^ n) = sL (fun R => sL (fun C => if pc R = k ∧ pc C = k then Bk (wt false) (mk z) (fl (tb C) 7) (tb R) else 0) (2 ^ n)) (2 ^ n) := by
    refine sL_congr (fun R hR => ?_)
    by_cases h : pc R = k
    · rw [if_pos h]
      refine sL_congr (fun C hC => ?_)
      by_cases h2 : pc C = k
      · rw [if_pos h2, if_pos ⟨h, h2⟩]
        rw [Bk_mat (wt false) hn hR hC (cell' := fun x y => mk z y x) (fun r a hr ha => by rw [mk_gl, gl_mkz (by omega) (by omega)]; rfl)]
        exact Bk_turn false (mk z) (cntB (tb R) 7) (tb R) (tb C) rfl
      · rw [if_neg h2, if_neg (fun hh => h2 hh.2)]
    · rw [if_neg h]
      have : (fun C => if pc R = k ∧ pc C = k then Bk (wt false) (mk z) (fl (tb C) 7) (tb R) else 0) = fun _ => 0 := by
        funext C
        rw [if_neg (fun hh => h hh.1)]
      rw [this, sL_zero]
  have e2 : sL (fun R => if pc R = k then sL (fun C => if pc C = k then Bk (wt false) (mk z) (fl (tb R) 7) (tb C) else 0) (2 ^ n) else 0) (2 ^ n) = sL (fun C => sL (fun R => if pc C = k ∧ pc R = k then Bk (wt false) (mk z) (fl (tb C) 7) (tb R) else 0) (2 ^ n)) (2 ^ n) := by
    refine sL_congr (fun C hC => ?_)
    by_cases h : pc C = k
    · rw [if_pos h]
      refine sL_congr (fun R hR => ?_)
      by_cases h2 : pc R = k
      · rw [if_pos h2, if_pos ⟨h, h2⟩]
      · rw [if_neg h2, if_neg (fun hh => h2 hh.2)]
    · rw [if_neg h]
      have : (fun R => if pc C = k ∧ pc R = k then Bk (wt false) (mk z) (fl (tb C) 7) (tb R) else 0) = fun _ => 0 := by
        funext R
        rw [if_neg (fun hh => h hh.1)]
      rw [this, sL_zero]
  rw [e1, e2, sL_swap]
  refine sL_congr (fun C _ => sL_congr (fun R _ => ?_))
  by_cases h : pc R = k ∧ pc C = k
  · rw [if_pos h, if_pos ⟨h.2, h.1⟩]
  · rw [if_neg h, if_neg (fun hh => h ⟨hh.2, hh.1⟩)]
/-! one entry set -/
theorem range_minor {n i : Nat} (hn : n ≤ 7) (hi : i < n) : (List.range n).Perm (i :: fl (tb (2 ^ n - 1 - 2 ^ i)) 7) ∧ i ∉ fl (tb (2 ^ n - 1 - 2 ^ i)) 7 := by
  have h7 : 2 ^ n ≤ 128 := two_pow_le hn
  have hlt := full_lt n
  have hS := (full_bit n hn i hi).1
  have hd := tb_sub (s := 2 ^ n - 1) (by omega) (show i < 7 by omega) hS
  rw [hd, ← fl_erase, fl_full n hn]
  refine ⟨List.perm_cons_erase (List.mem_range.mpr hi), fun h => ?_⟩
  exact absurd h ((List.nodup_range).not_mem_erase)
theorem PM_set {n i j : Nat} {z : Nat → Int32} {e : Int32} (hn : n ≤ 7) (hi : i < n) (hj : j < n) : PM n (upd z (7 * i + j) e) = PM n z + (e.toInt64 - (z (7 * i + j)).toInt64) * MN n z i j ∧ MN n (upd z (7 * i + j) e) i j = MN n z i j := by
  have h7 : 2 ^ n ≤ 128 := two_pow_le hn
  have hlt := full_lt n
  have hS := (full_bit n hn j hj).1
  have hd := tb_sub (s := 2 ^ n - 1) (by omega) (show j < 7 by omega) hS
  obtain ⟨hp, hr⟩ := range_minor hn hi
  have h := Bk_entry (cell := cl z) (cell' := cl (upd z (7 * i + j) e)) (r := i) (q := j) (by omega) (fun x a ha hh => by
    unfold cl
    rw [upd_at, if_neg (fun e => hh (by omega))]) hp hr (S := tb (2 ^ n - 1)) hS
  rw [← hd] at h
  have e1 : cl (upd z (7 * i + j) e) i j = e.toInt64 := by
    unfold cl
    rw [upd_at, if_pos rfl]
  rw [e1] at h
  exact h
/-! numbers -/
theorem i64_sub {x y : Int32} (hx : -20 ≤ x.toInt ∧ x.toInt ≤ 20) (hy : -20 ≤ y.toInt ∧ y.toInt ≤ 20) : (x - y).toInt64 = x.toInt64 - y.toInt64 := by
  refine Int64.toInt_inj.mp ?_
  rw [Int64.toInt_sub, Int32.toInt_toInt64, Int32.toInt_toInt64, Int32.toInt_toInt64, Int32.toInt_sub, Int.bmod_eq_of_le (by omega) (by omega), Int.bmod_eq_of_le (by omega) (by omega)]
theorem abs_mul {a b : Int} {c d : Nat} (ha : a.natAbs ≤ c) (hb : b.natAbs ≤ d) : (a * b).natAbs ≤ c * d := by
  rw [Int.natAbs_mul]
  exact Nat.mul_le_mul ha hb
theorem mul_toInt {x y : Int32} (hx : -20 ≤ x.toInt ∧ x.toInt ≤ 20) (hy : -9 ≤ y.toInt ∧ y.toInt ≤ 9) : (x * y).toInt = x.toInt * y.toInt ∧ (x.toInt * y.toInt).natAbs ≤ 180 := by
  have h := abs_mul (a := x.toInt) (b := y.toInt) (c := 20) (d := 9) (by omega) (by omega)
  refine ⟨?_, h⟩
  rw [Int32.toInt_mul]
  generalize x.toInt * y.toInt = p at h
  exact Int.bmod_eq_of_le (by omega) (by omega)
theorem i64_mul {x y : Int32} (hx : -20 ≤ x.toInt ∧ x.toInt ≤ 20) (hy : -9 ≤ y.toInt ∧ y.toInt ≤ 9) : (x * y).toInt64 = y.toInt64 * x.toInt64 := by
  obtain ⟨h1, h2⟩ := mul_toInt hx hy
  refine Int64.toInt_inj.mp ?_
  rw [Int64.toInt_mul, Int32.toInt_toInt64, Int32.toInt_toInt64, Int32.toInt_toInt64, h1, Int.mul_comm y.toInt]
  generalize x.toInt * y.toInt = p at h2
  exact (Int.bmod_eq_of_le (by omega) (by omega)).symm
/-! a row times a number -/
theorem mul_val (b : Bool) {n i : Nat} {z : Nat → Int32} {f : Int32} (hn : n ≤ 7) (hi : i < n) (hz : ∀ k, k < 49 → -20 ≤ (z k).toInt ∧ (z k).toInt ≤ 20) (hf : -9 ≤ f.toInt ∧ f.toInt ≤ 9) : Bk (wt b) (cl (mkz n (fun r q => if r = i then z (7 * r + q) * f else z (7 * r + q)))) (List.range n) (tb (2 ^ n - 1)) = f.toInt64 * Bk (wt b) (cl z) (List.range n) (tb (2 ^ n - 1)) := by
  rw [← Bk_scale (wt b) (cell := cl z) (cell' := fun r a => if r = i then f.toInt64 * cl z r a else cl z r a) (r := i) (f := f.toInt64) (fun a _ => if_pos rfl) (fun x hx a _ => if_neg hx) (List.range n) (tb (2 ^ n - 1)) List.nodup_range (List.mem_range.mpr hi)]
  refine Bk_full (wt b) hn (fun r a hr ha => ?_)
  rw [cl_gl, gl_mkz (by omega) (by omega)]
  by_cases e : r = i
  · rw [if_pos e, if_pos e, i64_mul (hz _ (by omega)) hf]
    rfl
  · rw [if_neg e, if_neg e]
    rfl
theorem sI_mul (c : Int32) (f : Nat → Int32) (n : Nat) : sI (fun k => f k * c) n = c * sI f n := by
  induction n with
  | zero => show (0 : Int32) = c * 0; grind
  | succ n ih => rw [sI, sI, ih]; grind
theorem rowSum_mul {n i : Nat} {z : Nat → Int32} {f : Int32} (hn : n ≤ 7) (hi : i < n) : rowSum (mkz n (fun r q => if r = i then z (7 * r + q) * f else z (7 * r + q))) n i = f * rowSum z n i := by
  unfold rowSum
  rw [← sI_mul]
  exact sI_congr (fun q hq => by rw [mkz_at (by omega) (by omega), if_pos rfl])
/-! how many entries are unlike -/
theorem cntB_rows (P : Nat → Bool) (m : Nat) : cntB P (7 * m) = sN (fun r => cntB (fun q => P (7 * r + q)) 7) m := by
  induction m with
  | zero => rfl
  | succ m ih => rw [Nat.mul_succ, cntB_add, ih, sN]
theorem cntB_two {i j : Nat} (hij : i ≠ j) : ∀ m, cntB (fun q => decide (q = i) || decide (q = j)) m = (if i < m then 1 else 0) + (if j < m then 1 else 0) := by
  intro m
  induction m with
  | zero => rfl
  | succ m ih =>
    rw [cntB, ih, show (if (decide (m = i) || decide (m = j)) = true then (1 : Nat) else 0) = if m = i ∨ m = j then 1 else 0 by simp]
    repeat' split
    all_goals omega
theorem sN_two {i j K : Nat} (hij : i ≠ j) : ∀ m, sN (fun r => if r = i ∨ r = j then K else 0) m = (if i < m then K else 0) + (if j < m then K else 0) := by
  intro m
  induction m with
  | zero => rfl
  | succ m ih =>
    rw [sN, ih]
    repeat' split
    all_goals omega
theorem sN_ite (B : Nat → Bool) (m : Nat) : sN (fun r => if B r then 2 else 0) m = 2 * cntB B m := by
  induction m with
  | zero => rfl
  | succ m ih =>
    rw [sN, cntB, ih]
    by_cases h : B m = true
    · rw [if_pos h, if_pos h]; omega
    · rw [if_neg h, if_neg h]
      omega
theorem cntB_same {P : Nat → Bool} {n : Nat} (h : ∀ k, k < n → P k = false) : cntB P n = 0 := cntB_false h
/-- rows that are unlike, at n places -/
theorem du_rows {n i j : Nat} {m z : Nat → Int32} (h : Mx n m z) (hi : i < n) (hj : j < n) : du (mkz n (fun r q => z (7 * sw i j r + q))) z = 2 * cntB (fun q => decide (¬ z (7 * i + q) = z (7 * j + q))) n := by
  obtain ⟨h1, h7, hc, hz, h0, hb⟩ := h
  unfold du
  rw [show (49 : Nat) = 7 * 7 from rfl, cntB_rows]
  by_cases hij : i = j
  · subst hij
    have e2 : cntB (fun q => decide (¬ z (7 * i + q) = z (7 * i + q))) n = 0 := cntB_false (fun k _ => by simp)
    rw [e2]
    have e1 : ∀ r, r < 7 → cntB (fun q => dn (mkz n (fun r q => z (7 * sw i i r + q))) z (7 * r + q)) 7 = 0 := fun r hr => cntB_false (fun q hq => by
      unfold dn
      rw [mkz_at hr hq, sw_same]
      simp)
    rw [sN_congr e1]
    rfl
  · have e1 : ∀ r, r < 7 → cntB (fun q => dn (mkz n (fun r q => z (7 * sw i j r + q))) z (7 * r + q)) 7 = if r = i ∨ r = j then cntB (fun q => decide (¬ z (7 * i + q) = z (7 * j + q))) n else 0 := fun r hr => by
      by_cases e : r = i
      · subst e
        rw [if_pos (Or.inl rfl)]
        rw [← cntB_tail (P := fun q => decide (¬ z (7 * r + q) = z (7 * j + q))) h7 (fun k hk hk2 => by
          rw [h0 r k hr hk2 (Or.inr hk), h0 j k (by omega) hk2 (Or.inr hk)]; decide)]
        exact cntB_congr (fun q hq => by
          unfold dn
          rw [mkz_at hr hq, show sw r j r = j by unfold sw; rw [if_pos rfl]]
          exact decide_eq_decide.mpr ⟨fun h hh => h hh.symm, fun h hh => h hh.symm⟩)
      · by_cases e2 : r = j
        · subst e2
          rw [if_pos (Or.inr rfl)]
          rw [← cntB_tail (P := fun q => decide (¬ z (7 * i + q) = z (7 * r + q))) h7 (fun k hk hk2 => by
            rw [h0 r k hr hk2 (Or.inr hk), h0 i k (by omega) hk2 (Or.inr hk)]; decide)]
          exact cntB_congr (fun q hq => by
            unfold dn
            rw [mkz_at hr hq, show sw i r r = i by unfold sw; rw [if_neg e, if_pos rfl]])
        · rw [if_neg (fun h => h.elim e e2)]
          exact cntB_false (fun q hq => by
            unfold dn
            rw [mkz_at hr hq, show sw i j r = r by unfold sw; rw [if_neg e, if_neg e2]]
            simp)
    rw [sN_congr e1, sN_two hij, if_pos (by omega), if_pos (by omega)]
    omega
theorem du_cols {n i j : Nat} {m z : Nat → Int32} (h : Mx n m z) (hi : i < n) (hj : j < n) : du (mkz n (fun r q => z (7 * r + sw i j q))) z = 2 * cntB (fun r => decide (¬ z (7 * r + i) = z (7 * r + j))) n := by
  obtain ⟨h1, h7, hc, hz, h0, hb⟩ := h
  unfold du
  rw [show (49 : Nat) = 7 * 7 from rfl, cntB_rows]
  rw [← cntB_tail (P := fun r => decide (¬ z (7 * r + i) = z (7 * r + j))) h7 (fun k hk hk2 => by
    rw [h0 k i hk2 (by omega) (Or.inl hk), h0 k j hk2 (by omega) (Or.inl hk)]; decide), ← sN_ite]
  refine sN_congr (fun r hr => ?_)
  by_cases hij : i = j
  · subst hij
    rw [if_neg (by simp)]
    exact cntB_false (fun q hq => by
      unfold dn
      rw [mkz_at hr hq, sw_same]
      simp)
  · by_cases he : z (7 * r + i) = z (7 * r + j)
    · rw [if_neg (by simpa using he)]
      exact cntB_false (fun q hq => by
        unfold dn
        rw [mkz_at hr hq]
        have : z (7 * r + sw i j q) = z (7 * r + q) := by
          unfold sw
          by_cases e : q = i
          · rw [if_pos e, e, he]
          · rw [if_neg e]
            by_cases e2 : q = j
            · rw [if_pos e2, e2, he]
            · rw [if_neg e2]
        rw [this]
        simp)
    · rw [if_pos (by simpa using he)]
      have e1 : cntB (fun q => dn (mkz n (fun r q => z (7 * r + sw i j q))) z (7 * r + q)) 7 = cntB (fun q => decide (q = i) || decide (q = j)) 7 := cntB_congr (fun q hq => by
        unfold dn
        rw [mkz_at hr hq]
        unfold sw
        by_cases e : q = i
        · subst e
          rw [if_pos rfl, decide_eq_true (show q = q from rfl), Bool.true_or]
          exact decide_eq_true (fun h => he h.symm)
        · rw [if_neg e, decide_eq_false e, Bool.false_or]
          by_cases e2 : q = j
          · subst e2
            rw [if_pos rfl, decide_eq_true (show q = q from rfl)]
            exact decide_eq_true he
          · rw [if_neg e2, decide_eq_false e2]
            simp)
      rw [e1, cntB_two hij, if_pos (by omega), if_pos (by omega)]
/-! turned -/
def sqD (D : Nat → Nat → Bool) (m : Nat) : Nat := sN (fun r => cntB (D r) m) m
def tri (D : Nat → Nat → Bool) (m : Nat) : Nat := sN (fun r => cntB (D r) r) m
theorem sN_bit (D : Nat → Nat → Bool) (hs : ∀ r q, D r q = D q r) (q : Nat) (m : Nat) : sN (fun r => cntB (D r) q + if D r q then 1 else 0) m = sN (fun r => cntB (D r) q) m + cntB (D q) m := by
  induction m with
  | zero => rfl
  | succ m ih => rw [sN, sN, cntB, ih, hs q m]; omega
theorem sqD_tri (D : Nat → Nat → Bool) (hs : ∀ r q, D r q = D q r) (hd : ∀ r, D r r = false) (m : Nat) : sqD D m = 2 * tri D m := by
  induction m with
  | zero => rfl
  | succ m ih =>
    unfold sqD at ih ⊢
    unfold tri at ih ⊢
    rw [sN, sN]
    have e1 : sN (fun r => cntB (D r) (m + 1)) m = sN (fun r => cntB (D r) m) m + cntB (D m) m := by
      rw [← sN_bit D hs m m]
      rfl
    rw [e1, ih]
    show _ + (cntB (D m) m + if D m m then 1 else 0) = _
    rw [hd m, if_neg (by decide)]
    omega
theorem tri_le {D : Nat → Nat → Bool} {n : Nat} (hn : n ≤ 7) (h0 : ∀ r q, r < 7 → q < 7 → n ≤ r → D r q = false) : 2 * tri D 7 ≤ n * n - n := by
  have h1 : ∀ r, r < 7 → cntB (D r) r ≤ if r < n then r else 0 := fun r hr => by
    by_cases h : r < n
    · rw [if_pos h]; exact cntB_le _ _
    · rw [if_neg h, cntB_false (fun k hk => h0 r k hr (by omega) (by omega))]
      exact Nat.le_refl _
  have h2 : ∀ m, m ≤ 7 → tri D m ≤ sN (fun r => if r < n then r else 0) m := by
    intro m
    induction m with
    | zero => intro _; exact Nat.le_refl _
    | succ m ih =>
      intro hm
      have a := ih (by omega)
      have b := h1 m (by omega)
      unfold tri at a ⊢
      rw [sN, sN]
      omega
  have h3 := h2 7 (Nat.le_refl _)
  have h4 : ∀ n, n ≤ 7 → 2 * sN (fun r => if r < n then r else 0) 7 = n * n - n := by decide
  have h5 := h4 n hn
  omega
theorem du_turn {n : Nat} {m z : Nat → Int32} (h : Mx n m z) : ∃ k, du (mkz n (fun r q => z (7 * q + r))) z = 2 * k ∧ 2 * k ≤ n * n - n := by
  obtain ⟨h1, h7, hc, hz, h0, hb⟩ := h
  refine ⟨tri (fun r q => decide (¬ z (7 * q + r) = z (7 * r + q))) 7, ?_, tri_le h7 (fun r q hr hq hn => ?_)⟩
  · rw [← sqD_tri _ (fun r q => decide_eq_decide.mpr ⟨fun h hh => h hh.symm, fun h hh => h hh.symm⟩) (fun r => by simp)]
    unfold du sqD
    rw [show (49 : Nat) = 7 * 7 from rfl, cntB_rows]
    exact sN_congr (fun r hr => cntB_congr (fun q hq => by
      unfold dn
      rw [mkz_at hr hq]))
  · rw [h0 r q hr hq (Or.inl hn), h0 q r hq hr (Or.inr hn)]
    decide
theorem du_SY {n : Nat} {z : Nat → Int32} : du (mkz n (fun r q => z (7 * q + r))) z = 0 ↔ SY z = true := by
  constructor
  · intro h
    have h2 := cntB_zero h
    refine allB_t.mpr (fun k hk => ?_)
    have h3 := h2 k hk
    unfold dn at h3
    rw [show mkz n (fun r q => z (7 * q + r)) k = z (7 * (k % 7) + k / 7) by unfold mkz; rw [if_pos hk]] at h3
    have h4 : z (7 * (k % 7) + k / 7) = z k := by simpa using h3
    rw [show k % 7 * 7 + k / 7 = 7 * (k % 7) + k / 7 by omega, h4]
    simp
  · intro h
    refine cntB_false (fun k hk => ?_)
    have h3 := allB_t.mp h k hk
    unfold dn
    rw [show mkz n (fun r q => z (7 * q + r)) k = z (7 * (k % 7) + k / 7) by unfold mkz; rw [if_pos hk]]
    rw [show k % 7 * 7 + k / 7 = 7 * (k % 7) + k / 7 by omega] at h3
    have h4 : z k = z (7 * (k % 7) + k / 7) := by simpa using h3
    rw [← h4]
    simp
/-! a row times a number: which entries are unlike -/
theorem mul_same {x f : Int32} (hx : -20 ≤ x.toInt ∧ x.toInt ≤ 20) (hf : -9 ≤ f.toInt ∧ f.toInt ≤ 9) : x * f = x ↔ (x = 0 ∨ f = 1) := by
  constructor
  · intro h
    have h1 := (mul_toInt hx hf).1
    rw [h] at h1
    have h2 : x.toInt * (f.toInt - 1) = 0 := by rw [Int.mul_sub, Int.mul_one]; omega
    rcases Int.mul_eq_zero.mp h2 with h3 | h3
    · left
      exact Int32_eq_of (by rw [h3]; decide)
    · right
      exact Int32_eq_of (by rw [show (1 : Int32).toInt = 1 by decide]; omega)
  · intro h
    rcases h with h | h
    · rw [h, Int32.zero_mul]
    · rw [h, Int32.mul_one]
theorem du_mul {n i : Nat} {m z : Nat → Int32} {f : Int32} (h : Mx n m z) (hi : i < n) (hf : -9 ≤ f.toInt ∧ f.toInt ≤ 9) : du (mkz n (fun r q => if r = i then z (7 * r + q) * f else z (7 * r + q))) z = if f = 1 then 0 else cntB (fun q => decide (¬ z (7 * i + q) = 0)) n := by
  obtain ⟨h1, h7, hc, hz, h0, hb⟩ := h
  unfold du
  by_cases e1 : f = 1
  · rw [if_pos e1]
    refine cntB_false (fun k hk => ?_)
    unfold dn
    rw [show k = 7 * (k / 7) + k % 7 by omega, mkz_at (by omega) (Nat.mod_lt _ (by omega))]
    have : (if k / 7 = i then z (7 * (k / 7) + k % 7) * f else z (7 * (k / 7) + k % 7)) = z (7 * (k / 7) + k % 7) := by
      split
      · rw [e1, Int32.mul_one]
      · rfl
    rw [this]
    simp
  · rw [if_neg e1, show (49 : Nat) = 7 * 7 from rfl, cntB_rows]
    have e2 : ∀ r, r < 7 → cntB (fun q => dn (mkz n (fun r q => if r = i then z (7 * r + q) * f else z (7 * r + q))) z (7 * r + q)) 7 = if r = i ∨ r = 7 then cntB (fun q => decide (¬ z (7 * i + q) = 0)) n else 0 := fun r hr => by
      by_cases e : r = i
      · subst e
        rw [if_pos (Or.inl rfl)]
        rw [← cntB_tail (P := fun q => decide (¬ z (7 * r + q) = 0)) h7 (fun k hk hk2 => by
          rw [h0 r k hr hk2 (Or.inr hk)]; decide)]
        exact cntB_congr (fun q hq => by
          unfold dn
          rw [mkz_at hr hq, if_pos rfl]
          refine decide_eq_decide.mpr (not_congr ?_)
          rw [mul_same (hb _ (by omega)) hf]
          exact ⟨fun h => h.resolve_right e1, Or.inl⟩)
      · rw [if_neg (fun h => h.elim e (by omega))]
        exact cntB_false (fun q hq => by
          unfold dn
          rw [mkz_at hr hq, if_neg e]
          simp)
    rw [sN_congr e2, sN_two (show i ≠ 7 by omega), if_pos (by omega), if_neg (by omega), Nat.add_zero]
/-! one more along a diagonal -/
theorem total_add {n a : Nat} {m z : Nat → Int32} (h : Mx n m z) (hv : VD a n) : sI (mkz n (fun r q => if r < n ∧ q = dg a (n - 1 - r) then z (7 * r + q) + 1 else z (7 * r + q))) 49 = sI z 49 + nI n := by
  obtain ⟨h1, h7, hc, hz, h0, hb⟩ := h
  have hdl : ∀ k, k < n → dg a (n - 1 - k) < n := fun k hk => (hv.1 _ (by omega)).1
  rw [show (49 : Nat) = 7 * 7 from rfl, sI_rows, sI_rows]
  have e1 : ∀ r, r < 7 → sI (fun q => mkz n (fun r q => if r < n ∧ q = dg a (n - 1 - r) then z (7 * r + q) + 1 else z (7 * r + q)) (7 * r + q)) 7 = sI (fun q => z (7 * r + q)) 7 + (if r < n then 1 else 0) := fun r hr => by
    by_cases hr2 : r < n
    · rw [if_pos hr2]
      have hd := hdl r hr2
      have := sI_add2 (fun q => z (7 * r + q)) (fun q => if q = dg a (n - 1 - r) then 1 else 0) 7
      rw [sI_single, if_pos (show dg a (n - 1 - r) < 7 by omega)] at this
      rw [← this]
      refine sI_congr (fun q hq => ?_)
      rw [mkz_at hr hq]
      by_cases e : q = dg a (n - 1 - r)
      · rw [if_pos ⟨hr2, e⟩, if_pos e]
      · rw [if_neg (fun h => e h.2), if_neg e]
        grind
    · rw [if_neg hr2]
      have : sI (fun q => mkz n (fun r q => if r < n ∧ q = dg a (n - 1 - r) then z (7 * r + q) + 1 else z (7 * r + q)) (7 * r + q)) 7 = sI (fun q => z (7 * r + q)) 7 := sI_congr (fun q hq => by
        rw [mkz_at hr hq, if_neg (fun h => hr2 h.1)])
      rw [this]
      grind
  rw [sI_congr e1, sI_add2]
  congr 1
  have : ∀ n, n ≤ 7 → sI (fun r => if r < n then (1 : Int32) else 0) 7 = nI n := by decide +kernel
  exact this n h7
/-! nothing but zeros -/
theorem Bk_none (w : (Nat → Bool) → Nat → Int64) {cell : Nat → Nat → Int64} (h : ∀ r a, r < 7 → a < 7 → cell r a = 0) (rs : List Nat) (r : Nat) (hr : r < 7) (S : Nat → Bool) : Bk w cell (r :: rs) S = 0 := by
  rw [Bk]
  have : sL (fun a => if S a then w S a * cell r a * Bk w cell rs (dl S a) else 0) 7 = sL (fun _ => 0) 7 := sL_congr (fun a ha => by
    rw [h r a hr ha]
    split
    · grind
    · rfl)
  rw [this, sL_zero]
theorem range_cons {n : Nat} (h : 1 ≤ n) : List.range n = 0 :: List.range' 1 (n - 1) := by
  obtain ⟨k, rfl⟩ : ∃ k, n = k + 1 := ⟨n - 1, by omega⟩
  rw [List.range_eq_range', List.range'_succ]
  rfl
theorem PM_none {n : Nat} (h : 1 ≤ n) : PM n (mkz n (fun _ _ => 0)) = 0 := by
  unfold PM
  rw [range_cons h]
  exact Bk_none _ (fun r a hr ha => by rw [cl_gl, gl_mkz hr ha]; rfl) _ 0 (by omega) _
theorem WD_none {n : Nat} (h : 1 ≤ n) (hn : n ≤ 7) : nI (WD n (mkz n (fun _ _ => 0))) = 0 := by
  rw [WD_Bk hn, range_cons h, Bk_none _ (fun r a hr ha => by rw [mk_gl, gl_mkz hr ha]; rfl) _ 0 (by omega) _]
  rfl
theorem sq_none {n : Nat} : ∀ (q : List Nat) (r : Nat), r + q.length ≤ 7 → (∀ v ∈ q, v < 7) → sq (mkz n (fun _ _ => 0)) r q = 0 := by
  intro q
  induction q with
  | nil => intro r _ _; rfl
  | cons a q ih =>
    intro r hl hv
    have ha := hv a List.mem_cons_self
    rw [List.length_cons] at hl
    rw [sq, ih (r + 1) (by omega) (fun v h => hv v (List.mem_cons_of_mem _ h)), mkz_at (by omega) ha]
    rfl
theorem nodes_none {n : Nat} {c : Nat → Int32} (h : Mx n c (mkz n (fun _ _ => 0))) (ms : Int32) (mc : Nat → Int32) (t : Nat → Int64) : ∃ mc' t', f_X9_nodes (nI n) c ms mc t 0 = some (1, nI n, mc', t') := by
  obtain ⟨h1, hn, hc, hz49, h0, hz⟩ := h
  obtain ⟨mc', e2, e3⟩ := marks_n h1 hn ms mc c
  obtain ⟨t1, e4, e5⟩ := begin_n t
  unfold f_X9_nodes
  rw [e2, bs]
  dsimp only
  rw [e4, bs]
  have hcl : ∀ r a, r < n → a < n → cl mc' r a = 0 := fun r a hr ha => by
    unfold cl
    rw [e3 r a hr ha, hc _ (by omega), mkz_at (by omega) (by omega), if_pos rfl]
    rfl
  have hz : ∀ j s, j < n → s < 2 ^ n → Bk (wt false) (cl mc') (List.range (j + 1)) (tb s) = 0 := fun j s hj hs => by
    rw [Bk_cell (wt false) (cell' := fun _ _ => 0) _ _ (fun r hr a ha hS => hcl r a (by have := List.mem_range.mp hr; omega) (tb_in hn hs ha hS)), range_cons (by omega)]
    exact Bk_none _ (fun _ _ _ _ => rfl) _ 0 (by omega) _
  obtain ⟨y, e6, e7⟩ := lp_cntX (body := f_X9_nodes_L1 0 (nI n) mc') (fun j (a : Int64 × (Nat → Int64)) => (a.1, nI j, a.2)) (fun j a => a.1.toInt32 = 1 ∧ Dp n a.2 (Bk (wt false) (cl mc') (List.range j))) n (fun y : Int64 × (Nat → Int64) => y.1.toInt32 = 1) (fun j a hj hp => by
    obtain ⟨p1, p2⟩ := hp
    obtain ⟨t', g1, g2⟩ := takeRow_Dp hn hj false mc' p2
    rw [← List.range_succ] at g2
    change f_X0_takeRow a.2 (nI n) mc' (nI j) (0 : Int32) = some t' at g1
    have hrow := row_eN hn g2 0
    have hz2 : sI (fun s => eN 0 (Bk (wt false) (cl mc') (List.range (j + 1)) (tb s))) (2 ^ n) = 0 := sI_zero' (fun s hs => by rw [hz j s hj hs, eN_zero])
    rw [hz2] at hrow
    rw [f_X9_nodes_L1, f_X4_size, bs, if_neg (by rw [nI_leI (by omega) (by omega)]; omega), g1, bs, if_pos rfl, sumOfAll0_n, bs, pl_e, pl_e, nI_1]
    refine ⟨(a.1 + sL t' 128, t'), rfl, ?_, g2⟩
    show (a.1 + sL t' 128).toInt32 = _
    rw [Int64.toInt32_add, p1, toI32_sL]
    have : (fun s => eN 0 (t' s)) = fun s => (t' s).toInt32 := by
      funext s
      unfold eN
      rw [if_pos rfl]
    rw [this] at hrow
    rw [hrow]
    rfl) (fun a hp => by
    rw [f_X9_nodes_L1, f_X4_size, bs, if_pos (by rw [nI_leI (by omega) (by omega)]; omega)]
    exact ⟨_, rfl, hp.1⟩) (FU_lt (by omega)) (a := ((1 : Int64), t1)) ⟨rfl, begin_Dp _ _ e5⟩
  change lpN _ FU ((1 : Int64), (0 : Int32), t1) = _ at e6
  rw [e6, bs]
  obtain ⟨y1, y2⟩ := y
  dsimp only at e7 ⊢
  rw [e7]
  exact ⟨_, _, rfl⟩
theorem cmask_none {n : Nat} {z : Nat → Int32} (hn : n ≤ 7) (h : ∀ k, k < 49 → z k = 0) (R : Nat) : cmask z n R n = 0 := by
  refine Nat.eq_of_testBit_eq (fun i => ?_)
  rw [Nat.zero_testBit]
  cases hb : (cmask z n R n).testBit i with
  | false => rfl
  | true =>
    obtain ⟨r, h1, h2, h3, h4⟩ := (cmask_bit z n R n i).mp hb
    unfold nz at h4
    rw [h _ (by omega)] at h4
    simp at h4
theorem tooFew_none {n : Nat} {c : Nat → Int32} (h : Mx n c (mkz n (fun _ _ => 0))) : f_X9_tooFew (nI n) c = some 1 := by
  obtain ⟨h1, h7, hc, hz, h0, hb⟩ := h
  obtain ⟨o, e1, hB⟩ := ctooFew_n h1 h7 c
  have hz0 : ∀ k, k < 49 → c k = 0 := fun k hk => by
    rw [hc k hk]
    unfold mkz
    rw [if_pos hk]
  have hp : 2 ≤ 2 ^ n := by
    have := Nat.pow_le_pow_right (n := 2) (by omega) h1
    omega
  have h27 : 2 ^ n ≤ 128 := two_pow_le h7
  have key : ∀ R, R < 128 → 1 ≤ R → 0 < pc R ∧ (pc 1 < pc R ∨ (pc 1 = pc R ∧ 1 ≤ R)) := by decide +kernel
  have hB1 : Bst (fun R => pc (cmask c n R n) < pc R) 1 (2 ^ n - 1) (some 1) := by
    refine ⟨Nat.le_refl _, by omega, ?_, fun R hR1 hR2 _ => (key R (by omega) hR1).2⟩
    show pc (cmask c n 1 n) < pc 1
    rw [cmask_none h7 hz0]
    decide
  rw [Bst.uniq hB hB1] at e1
  exact e1
