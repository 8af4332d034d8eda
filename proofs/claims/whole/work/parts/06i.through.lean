/-! MATHEMATICS: whole diagonals through a cell -/
theorem misWhole_n {z o : Nat → Int32} {n : Nat} {p : List Nat} (hz49 : z 49 = nI n) (hn : n ≤ 7) (hl : p.length = n) (hv : ∀ v ∈ p, v < n) (ho : Od o p) : f_X10_isWhole__a1_t_z z o = some (b2i (allB (fun i => nz z (7 * i + p.getD i 0)) n)) := by
  have hmem : ∀ i, i < n → p.getD i 0 < n := by
    intro i hi
    refine hv _ ?_
    rw [List.getD_eq_getElem?_getD, List.getElem?_eq_getElem (by omega)]
    exact List.getElem_mem _
  unfold f_X10_isWhole__a1_t_z
  have h := lp_cnt (body := f_X10_isWhole__a1_t_z_L1 z o) (fun j => b2i (allB (fun i => nz z (7 * i + p.getD i 0)) j)) n (b2i (allB (fun i => nz z (7 * i + p.getD i 0)) n)) (fun j hj => by
    have m1 := hmem j hj
    rw [f_X10_isWhole__a1_t_z_L1, gd_t (by decide), mz49 hz49, if_neg (by rw [nI_leI (by omega) (by omega)]; omega)]
    rw [allB]
    cases hb : allB (fun i => nz z (7 * i + p.getD i 0)) j with
    | false =>
      rw [show b2i false = 0 from rfl, if_pos rfl, pl_e, nI_1]
      rfl
    | true =>
      rw [if_neg (show ¬ b2i true = 0 by decide), gd_okI (by omega) (by omega), nI_clamp (by omega), ho.getD (by omega), show ((7 : Int32) * nI j) = nI (7 * j) from pk_mul 7 j, nI_add, gd_okI (by omega) (by omega), nI_clamp (by omega)]
      by_cases hz : z (7 * j + p.getD j 0) = 0
      · rw [if_pos hz, pl_e, nI_1]
        have : nz z (7 * j + p.getD j 0) = false := decide_eq_false (fun h => h hz)
        rw [this]
        rfl
      · rw [if_neg hz, pl_e, nI_1]
        have : nz z (7 * j + p.getD j 0) = true := decide_eq_true hz
        rw [this]
        rfl) (by
    rw [f_X10_isWhole__a1_t_z_L1, gd_t (by decide), mz49 hz49, if_pos (by rw [nI_leI (by omega) (by omega)]; omega)]) (by omega)
  change lpN _ FU ((1 : Int32), (0 : Int32)) = _ at h
  rw [h, bs, gd_t]
  cases allB (fun i => nz z (7 * i + p.getD i 0)) n with
  | false => exact Or.inl rfl
  | true => exact Or.inr rfl
theorem pL01 {f : Nat → Int64} {P : Nat → Bool} {n : Nat} (h : ∀ k, k < n → f k = if P k then 1 else 0) : pL f n = if allB P n then 1 else 0 := by
  induction n with
  | zero => rfl
  | succ n ih =>
    rw [pL, ih (fun k hk => h k (by omega)), h n (by omega), allB]
    cases allB P n <;> cases P n <;> rfl
theorem fold32 {α : Type} (F : α → Int64) (L : List α) (b : Int32) : L.foldl (fun b p => b + (F p).toInt32) b = b + (lsum F L).toInt32 := by
  induction L generalizing b with
  | nil => show b = b + (0 : Int64).toInt32; rw [show (0 : Int64).toInt32 = 0 from rfl]; grind
  | cons a L ih =>
    rw [List.foldl_cons, ih]
    show b + (F a).toInt32 + (lsum F L).toInt32 = b + (F a + lsum F L).toInt32
    rw [Int64.toInt32_add]
    grind
def fx (cell : Nat → Nat → Int64) (r q : Nat) : Nat → Nat → Int64 := fun i a => if i = r ∧ a ≠ q then 0 else cell i a
theorem sL_single (q : Nat) (v : Int64) : ∀ n, sL (fun a => if a = q then v else 0) n = if q < n then v else 0 := by
  intro n
  induction n with
  | zero => rfl
  | succ n ih =>
    rw [sL, ih]
    by_cases h : n = q
    · rw [if_pos h, if_neg (by omega), if_pos (by omega)]
      grind
    · rw [if_neg h]
      by_cases h2 : q < n
      · rw [if_pos h2, if_pos (by omega)]
        grind
      · rw [if_neg h2, if_neg (by omega)]
        grind
theorem Bk_fix (cell : Nat → Nat → Int64) {r q : Nat} (hq : q < 7) : ∀ (rs : List Nat) (S : Nat → Bool), r ∈ rs → rs.Nodup → Bk (wt false) (fx cell r q) rs S = if S q then cell r q * Bk (wt false) cell (rs.erase r) (dl S q) else 0 := by
  intro rs
  induction rs with
  | nil => intro S h; cases h
  | cons r0 rs ih =>
    intro S h hnd
    rw [List.nodup_cons] at hnd
    by_cases e : r0 = r
    · subst e
      rw [List.erase_cons_head, Bk]
      have e1 : sL (fun a => if S a then wt false S a * fx cell r0 q r0 a * Bk (wt false) (fx cell r0 q) rs (dl S a) else 0) 7 = sL (fun a => if a = q then (if S q then cell r0 q * Bk (wt false) cell rs (dl S q) else 0) else 0) 7 := by
        refine sL_congr (fun a ha => ?_)
        by_cases ea : a = q
        · subst ea
          rw [if_pos rfl]
          by_cases hS : S a = true
          · rw [if_pos hS, if_pos hS]
            show 1 * (if r0 = r0 ∧ a ≠ a then 0 else cell r0 a) * _ = _
            rw [if_neg (by simp), Bk_cell (wt false) (cell' := cell) rs (dl S a) (fun r' hr' a' _ _ => by
              show (if r' = r0 ∧ a' ≠ a then 0 else cell r' a') = _
              rw [if_neg (show ¬ (r' = r0 ∧ a' ≠ a) from fun hc => hnd.1 (hc.1 ▸ hr'))])]
            grind
          · rw [if_neg hS, if_neg hS]
        · rw [if_neg ea]
          by_cases hS : S a = true
          · rw [if_pos hS]
            show 1 * (if r0 = r0 ∧ a ≠ q then 0 else cell r0 a) * _ = _
            rw [if_pos ⟨rfl, ea⟩]
            grind
          · rw [if_neg hS]
      rw [e1, sL_single, if_pos hq]
    · have hr : r ∈ rs := by
        rcases List.mem_cons.mp h with h | h
        · exact absurd h.symm e
        · exact h
      rw [List.erase_cons_tail (by simpa using e), Bk]
      by_cases hS : S q = true
      · rw [if_pos hS, Bk, ← sL_mul]
        refine sL_congr (fun a ha => ?_)
        by_cases ea : a = q
        · subst ea
          rw [if_pos hS, ih (dl S a) hr hnd.2, if_neg (by rw [dl_self]; decide), if_neg (by rw [dl_self]; decide)]
          grind
        · rw [dl_at ea]
          by_cases hSa : S a = true
          · rw [if_pos hSa, if_pos hSa, ih (dl S a) hr hnd.2, dl_at (Ne.symm ea), if_pos hS, dl_comm S a q]
            show 1 * (if r0 = r ∧ a ≠ q then 0 else cell r0 a) * _ = _ * (1 * _ * _)
            rw [if_neg (fun hc => e hc.1)]
            grind
          · rw [if_neg hSa, if_neg hSa]
            grind
      · rw [if_neg hS]
        have e1 : sL (fun a => if S a then wt false S a * fx cell r q r0 a * Bk (wt false) (fx cell r q) rs (dl S a) else 0) 7 = sL (fun _ => 0) 7 := by
          refine sL_congr (fun a ha => ?_)
          by_cases hSa : S a = true
          · have hdq : ¬ dl S a q = true := by
              unfold dl
              rw [Bool.and_eq_true]
              exact fun hc => hS hc.1
            rw [if_pos hSa, ih (dl S a) hr hnd.2, if_neg hdq]
            grind
          · rw [if_neg hSa]
        rw [e1, sL_zero]
theorem st_diagonalsThrough {n : Nat} {c z : Nat → Int32} (h : Mx n c z) (ms : Int32) (mc : Nat → Int32) (t : Nat → Int64) (o : Nat → Int32) (a1 a2 : Int32) : ∃ v ms' mc' t' o', f_X9_diagonalsThrough (nI n) c ms mc t a1 a2 = some (v, ms', mc', t') ∧ f_X10_diagonalsThrough z o a1 a2 = some (v, o') := by
  obtain ⟨h1, hn, hc, hz49, h0, hz⟩ := h
  have h7 : 2 ^ n ≤ 128 := two_pow_le hn
  have hp0 : 0 < 2 ^ n := Nat.pow_pos (by omega)
  unfold f_X9_diagonalsThrough f_X10_diagonalsThrough
  rcases line_cases n a1 with ⟨r, hr, rfl⟩ | hx
  rotate_left
  · rw [has_no hx hn, mline_no hz49 h1 hx hn, bs, bs, if_pos rfl, if_pos rfl]
    exact ⟨_, _, _, _, _, rfl, rfl⟩
  rw [has_n hr hn, mline_n hz49 hr hn, bs, bs, if_neg (by decide), if_neg (by decide)]
  rcases line_cases n a2 with ⟨q, hq, rfl⟩ | hy
  rotate_left
  · rw [has_no hy hn, mline_no hz49 h1 hy hn, bs, bs, if_pos rfl, if_pos rfl]
    exact ⟨_, _, _, _, _, rfl, rfl⟩
  rw [has_n hq hn, mline_n hz49 hq hn, bs, bs, if_neg (by decide), if_neg (by decide), at_n hr hq hn, bs, gd_t (by decide), mz49 hz49]
  obtain ⟨o1, e1, e2⟩ := first_n hn o
  rw [e1, bs]
  have hmem : ∀ (p : List Nat), p.length = n → (∀ v ∈ p, v < n) → ∀ i, i < n → p.getD i 0 < n := by
    intro p hl hv i hi
    refine hv _ ?_
    rw [List.getD_eq_getElem?_getD, List.getElem?_eq_getElem (by omega)]
    exact List.getElem_mem _
  obtain ⟨o2, e3⟩ := lp_permF (body := f_X10_diagonalsThrough_L1 (nI r) (nI q) z) hn (fun (x : Int32) f o => (x, f, o)) (fun x p => x + (prodL (fx (mk z) r q) (List.range n) p).toInt32) (fun x o => (x, o)) (fun x p o hp1 hp2 ho => by
    have hm := hmem p hp1 hp2 r hr
    have hpr : prodL (fx (mk z) r q) (List.range n) p = if allB (fun i => nz z (7 * i + p.getD i 0) && !(decide (i = r) && !decide (p.getD i 0 = q))) n then 1 else 0 := by
      rw [prodL_pL _ _ _ (by rw [List.length_range, hp1]), List.length_range]
      refine pL01 (fun k hk => ?_)
      rw [range_getD hk]
      generalize p.getD k 0 = w
      unfold fx mk nz
      by_cases hh : k = r ∧ w ≠ q
      · rw [if_pos hh]
        simp [hh]
      · rw [if_neg hh]
        by_cases hzz : z (7 * k + w) = 0
        · rw [if_pos hzz]
          simp [hzz]
        · rw [if_neg hzz, if_pos]
          simp [hzz]
          exact Decidable.byContradiction fun hcc => hh (by
            rw [not_or] at hcc
            exact ⟨Decidable.of_not_not hcc.1, hcc.2⟩)
    rw [f_X10_diagonalsThrough_L1, if_neg (by decide), gd_okI (by omega) (by omega), nI_clamp (by omega), ho.getD (by omega)]
    have ey : (if nI (p.getD r 0) = nI q then (f_X10_isWhole__a1_t_z z o).bind (fun r_14 => if r_14 = 0 then some (0 : Int32) else some (1 : Int32)) else some (0 : Int32)) = some ((prodL (fx (mk z) r q) (List.range n) p).toInt32) := by
      rw [hpr]
      by_cases hpq : p.getD r 0 = q
      · rw [if_pos (by rw [hpq]), misWhole_n hz49 hn hp1 hp2 ho, bs]
        have : allB (fun i => nz z (7 * i + p.getD i 0) && !(decide (i = r) && !decide (p.getD i 0 = q))) n = allB (fun i => nz z (7 * i + p.getD i 0)) n := allB_congr (fun k hk => by
          by_cases hkr : k = r
          · subst hkr
            rw [hpq]
            simp
          · simp [hkr])
        rw [this]
        cases allB (fun i => nz z (7 * i + p.getD i 0)) n with
        | false => rfl
        | true => rfl
      · rw [if_neg (by rw [nI_eq (by omega) (by omega)]; exact hpq), allB_f (n := n) hr (by rw [decide_eq_true (rfl : r = r), decide_eq_false hpq]; simp)]
        rfl
    rw [ey, bs, pl_e, gd_t (by decide), mz49 hz49]) (fun x o => by
    rw [f_X10_diagonalsThrough_L1, if_pos rfl]) (0 : Int32) o1 e2
  rw [e3, bs]
  dsimp only
  rw [fold32]
  have e9 := prm_sum (wt false) (fx (mk z) r q) (fun _ => 1) rfl (fun S a q _ _ _ => rfl) (List.range n) (tb (2 ^ n - 1)) (by rw [List.length_range, tb_full_cnt n hn])
  rw [List.length_range, fl_full n hn] at e9
  have e10 : lsum (fun q_1 => 1 * prodL (fx (mk z) r q) (List.range n) q_1) (prm n (List.range n)) = lsum (prodL (fx (mk z) r q) (List.range n)) (prm n (List.range n)) := lsum_congr (fun q _ => by grind)
  have b1 := full_bit n hn r hr
  have b2 := full_bit n hn q hq
  rw [← e10, e9, Bk_fix (mk z) (by omega) (List.range n) (tb (2 ^ n - 1)) (List.mem_range.mpr hr) List.nodup_range, if_pos (show tb (2 ^ n - 1) q = true from b2.1)]
  rw [← tb_sub (by omega) (by omega) b2.1]
  have e11 : (List.range n).erase r = fl (tb (2 ^ n - 1 - 2 ^ r)) 7 := by
    rw [tb_sub (by omega) (by omega) b1.1, ← fl_erase, fl_full n hn]
  rw [e11, hc (7 * r + q) (by omega)]
  by_cases hzz : z (7 * r + q) = 0
  · rw [if_pos hzz]
    refine ⟨_, _, _, _, o2, rfl, ?_⟩
    rw [show mk z r q = 0 by unfold mk; rw [if_pos hzz]]
    congr 2
    rw [show (0 : Int64) * Bk (wt false) (mk z) (fl (tb (2 ^ n - 1 - 2 ^ r)) 7) (tb (2 ^ n - 1 - 2 ^ q)) = 0 by grind]
    rfl
  · rw [if_neg hzz]
    obtain ⟨mc', e4, e5⟩ := marks_n h1 hn ms mc c
    obtain ⟨t', e6⟩ := expandWithout_n hn hr hq t mc'
    have l1 := Nat.sub_le (2 ^ n - 1) (2 ^ r)
    have l2 := Nat.sub_le (2 ^ n - 1) (2 ^ q)
    rw [Bk_mat (wt false) hn (by omega) (by omega) (marks_cl hn hc e5)] at e6
    rw [e4, bs]
    dsimp only
    rw [e6, bs]
    refine ⟨_, _, _, _, o2, rfl, ?_⟩
    rw [show mk z r q = 1 by unfold mk; rw [if_neg hzz]]
    congr 2
    show (0 : Int32) + (1 * Bk (wt false) (mk z) _ _).toInt32 = (Bk (wt false) (mk z) _ _).toInt32
    rw [show (1 : Int64) * Bk (wt false) (mk z) (fl (tb (2 ^ n - 1 - 2 ^ r)) 7) (tb (2 ^ n - 1 - 2 ^ q)) = Bk (wt false) (mk z) (fl (tb (2 ^ n - 1 - 2 ^ r)) 7) (tb (2 ^ n - 1 - 2 ^ q)) by grind]
    grind
