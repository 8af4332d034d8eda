/-! MATHEMATICS: nodes of the expansions -/
theorem toI32_sL (f : Nat → Int64) (n : Nat) : (sL f n).toInt32 = sI (fun k => (f k).toInt32) n := by
  induction n with
  | zero => rfl
  | succ n ih => rw [sL, sI, Int64.toInt32_add, ih]
def BW (z : Nat → Int32) (s : Nat) : Int64 := Bk (wt false) (mk z) (List.range (pc s)) (tb s)
def cN (z : Nat → Int32) (s : Nat) : Nat := ((prm (pc s) (fl (tb s) 7)).filter (whL z 0)).length
theorem pc_fl (s : Nat) : (fl (tb s) 7).length = pc s := by rw [fl_len]; exact (pcN_cnt s 7).symm
theorem lsum_nat {α : Type} (P : α → Bool) (F : α → Int64) : ∀ L : List α, (∀ a ∈ L, F a = if P a then 1 else 0) → lsum F L = Int64.ofNat (L.filter P).length := by
  intro L
  induction L with
  | nil => intro _; rfl
  | cons a L ih =>
    intro h
    show F a + lsum F L = _
    rw [ih (fun b hb => h b (List.mem_cons_of_mem _ hb)), h a List.mem_cons_self, List.filter_cons]
    by_cases hp : P a = true
    · rw [if_pos hp, if_pos hp, List.length_cons, Int64.ofNat_add]
      show (1 : Int64) + _ = _ + 1
      grind
    · rw [if_neg hp, if_neg hp]
      grind
theorem BW_nat (z : Nat → Int32) (s : Nat) : BW z s = Int64.ofNat (cN z s) ∧ (BW z s).toInt32 = nI (cN z s) := by
  have e4 := prm_sum (wt false) (mk z) (fun _ => 1) rfl (fun S a q _ _ _ => rfl) (List.range (pc s)) (tb s) (by rw [List.length_range, ← pc_fl, fl_len])
  rw [List.length_range] at e4
  have hF : ∀ q ∈ prm (pc s) (fl (tb s) 7), (1 : Int64) * prodL (mk z) (List.range (pc s)) q = if whL z 0 q then 1 else 0 := by
    intro q hq
    have := prm_perm (pc s) _ (pc_fl s) q hq
    rw [prodL_whole (by rw [this.length_eq, pc_fl])]
    split <;> rfl
  unfold BW
  rw [← e4]
  exact ⟨lsum_nat (whL z 0) _ _ hF, lsum_count (whL z 0) _ _ hF⟩
theorem cN_le (z : Nat → Int32) (s : Nat) : cN z s ≤ 5040 := by
  refine Nat.le_trans (List.length_filter_le _ _) ?_
  rw [prm_len _ _ (pc_fl s)]
  exact fct_le (pc_le s)
theorem ofNat64 {k : Nat} (h : k ≤ 5040) : (Int64.ofNat k).toInt = k := by
  show (BitVec.ofNat 64 k).toInt = _
  rw [BitVec.toInt_eq_toNat_bmod, BitVec.toNat_ofNat, Nat.mod_eq_of_lt (by omega)]
  refine Int.bmod_eq_of_le ?_ ?_
  · omega
  · omega
/-- what one set adds -/
def eN (a1 : Int32) (v : Int64) : Int32 := if a1 = 0 then v.toInt32 else if v = 0 then 0 else 1
theorem eN_zero (a1 : Int32) : eN a1 0 = 0 := by
  unfold eN
  split
  · rfl
  · rw [if_pos rfl]
theorem eN_BW (a1 : Int32) (z : Nat → Int32) (s : Nat) : eN a1 (BW z s) = if a1 = 0 then nI (cN z s) else if nI (cN z s) ≤ 0 then 0 else 1 := by
  have h1 := cN_le z s
  obtain ⟨h2, h3⟩ := BW_nat z s
  unfold eN
  rw [h3]
  by_cases h : a1 = 0
  · rw [if_pos h, if_pos h]
  · rw [if_neg h, if_neg h, h2]
    by_cases hc : cN z s = 0
    · rw [hc, if_pos (by rfl), if_pos (by decide)]
    · rw [if_neg, if_neg]
      · rw [show (0 : Int32) = nI 0 from rfl, nI_leI (by omega) (by omega)]
        omega
      · intro hh
        have := ofNat64 h1
        rw [hh] at this
        rw [show (0 : Int64).toInt = 0 from rfl] at this
        omega
theorem pc_sub : ∀ s, s < 128 → ∀ a, a < 7 → s.testBit a = true → pc (s - 2 ^ a) + 1 = pc s := by decide +kernel
theorem BW_up {z : Nat → Int32} {s : Nat} (hs : s < 128) (h0 : 0 < pc s) : (BW z s).toInt32 = sI (fun a => if s.testBit a then (if z (7 * (pc s - 1) + a) = 0 then 0 else (BW z (s - 2 ^ a)).toInt32) else 0) 7 := by
  unfold BW
  have e0 : ∀ k, 0 < k → List.range k = List.range (k - 1) ++ [k - 1] := fun k hk => by
    obtain ⟨m, rfl⟩ : ∃ m, k = m + 1 := ⟨k - 1, by omega⟩
    rw [List.range_succ]
    rfl
  have e : List.range (pc s) = List.range (pc s - 1) ++ [pc s - 1] := e0 _ h0
  rw [e, Bk_last, toI32_sL]
  refine sI_congr (fun a ha => ?_)
  by_cases hb : s.testBit a = true
  · have hp := pc_sub s hs a ha hb
    rw [if_pos hb, if_pos (show tb s a = true from hb), ← tb_sub hs ha hb, show pc (s - 2 ^ a) = pc s - 1 by omega]
    show (1 * (if z (7 * (pc s - 1) + a) = 0 then 0 else 1) * Bk (wt false) (mk z) (List.range (pc s - 1)) (tb (s - 2 ^ a))).toInt32 = _
    by_cases hz : z (7 * (pc s - 1) + a) = 0
    · rw [if_pos hz, if_pos hz]
      rw [show (1 : Int64) * 0 * Bk (wt false) (mk z) (List.range (pc s - 1)) (tb (s - 2 ^ a)) = 0 by grind]
      rfl
    · rw [if_neg hz, if_neg hz]
      congr 1
      show (1 : Int64) * 1 * Bk (wt false) (mk z) (List.range (pc s - 1)) (tb (s - 2 ^ a)) = Bk (wt false) (mk z) (List.range (pc s - 1)) (tb (s - 2 ^ a))
      grind
  · rw [if_neg hb, if_neg (show ¬ tb s a = true from hb)]
    rfl
theorem pc_pos : ∀ s, s < 128 → 0 < s → 0 < pc s := by decide +kernel
theorem sub_bit : ∀ s, s < 128 → ∀ a, a < 7 → s.testBit a = true → s - 2 ^ a < s ∧ 2 ^ a ≤ s := by decide +kernel
theorem sI_single (q : Nat) (v : Int32) : ∀ n, sI (fun a => if a = q then v else 0) n = if q < n then v else 0 := by
  intro n
  induction n with
  | zero => rfl
  | succ n ih =>
    rw [sI, ih]
    by_cases h : n = q
    · rw [if_pos h, if_neg (by omega), if_pos (by omega)]
      grind
    · rw [if_neg h]
      by_cases h2 : q < n
      · rw [if_pos h2, if_pos (by omega)]
        grind
      · rw [if_neg h2, if_neg (by omega)]
        grind
theorem sI_add2 (f g : Nat → Int32) (n : Nat) : sI (fun k => f k + g k) n = sI f n + sI g n := by
  induction n with
  | zero => rfl
  | succ n ih => rw [sI, sI, sI, ih]; grind
theorem sI_swap (f : Nat → Nat → Int32) (m n : Nat) : sI (fun i => sI (fun j => f i j) n) m = sI (fun j => sI (fun i => f i j) m) n := by
  induction m with
  | zero => show (0 : Int32) = sI (fun j => 0) n; rw [sI_zero]
  | succ m ih =>
    show sI (fun i => sI (fun j => f i j) n) m + sI (fun j => f m j) n = sI (fun j => sI (fun i => f i j) m + f m j) n
    rw [ih, sI_add2]
/-- the class's sum of one row, in 32 bits -/
theorem row_eN {t : Nat → Int64} {G : (Nat → Bool) → Int64} {n : Nat} (hn : n ≤ 7) (h : Dp n t G) (a1 : Int32) : sI (fun s => eN a1 (t s)) 128 = sI (fun s => eN a1 (G (tb s))) (2 ^ n) := by
  have h7 : 2 ^ n ≤ 128 := two_pow_le hn
  rw [sI_tail (n := 2 ^ n) h7 (fun k h1 h2 => by rw [h k h2, if_neg (by omega), eN_zero])]
  exact sI_congr (fun s hs => by rw [h s (by omega), if_pos hs])
theorem rows_eN {cell : Nat → Nat → Int64} {n : Nat} (hn : n ≤ 7) (a1 : Int32) : 1 + sI (fun r => sI (fun s => eN a1 (Bk (wt false) cell (List.range (r + 1)) (tb s))) (2 ^ n)) n = sI (fun s => eN a1 (Bk (wt false) cell (List.range (pc s)) (tb s))) (2 ^ n) := by
  have h7 : 2 ^ n ≤ 128 := two_pow_le hn
  have hp0 : 0 < 2 ^ n := Nat.pow_pos (by omega)
  rw [sI_swap]
  have e1 : ∀ s, s < 2 ^ n → sI (fun r => eN a1 (Bk (wt false) cell (List.range (r + 1)) (tb s))) n + (if s = 0 then 1 else 0) = eN a1 (Bk (wt false) cell (List.range (pc s)) (tb s)) := by
    intro s hs
    by_cases e : s = 0
    · subst e
      rw [if_pos rfl, sI_congr (g := fun _ => 0) (fun r hr => by
        rw [Bk_zero _ _ _ _ (by rw [List.length_range, show cntB (tb 0) 7 = 0 by decide]; omega), eN_zero]), sI_zero, pc_zero]
      show (0 : Int32) + 1 = eN a1 (if cntB (tb 0) 7 = 0 then 1 else 0)
      rw [show cntB (tb 0) 7 = 0 by decide, if_pos rfl]
      unfold eN
      by_cases ha : a1 = 0
      · rw [if_pos ha]; rfl
      · rw [if_neg ha]; rfl
    · have hpp := pc_pos s (by omega) (by omega)
      have hpl : pc s ≤ n := pc_len hn hs
      have hcnt : cntB (tb s) 7 = pc s := by rw [← fl_len, pc_fl]
      rw [if_neg e, sI_congr (g := fun r => if r = pc s - 1 then eN a1 (Bk (wt false) cell (List.range (pc s)) (tb s)) else 0) (fun r hr => by
        by_cases er : r = pc s - 1
        · rw [if_pos er, show r + 1 = pc s by omega]
        · rw [if_neg er, Bk_zero _ _ _ _ (by rw [List.length_range, hcnt]; omega), eN_zero]), sI_single, if_pos (by omega)]
      grind
  rw [← sI_congr e1, sI_add2, sI_single, if_pos hp0]
  grind
theorem sumOfAll0_n (t : Nat → Int64) : f_X0_sumOfAll t = some (sL t 128) := by
  unfold f_X0_sumOfAll
  have h := lp_cnt (body := f_X0_sumOfAll_L1 t) (fun j => sL t j) 128 (sL t 128) (fun j hj => by
    rw [f_X0_sumOfAll_L1, if_neg (by rw [show (128 : Int32) = nI 128 from rfl, nI_leI (by omega) (by omega)]; omega), gd_okI (by omega) (by omega), nI_clamp (by omega), pl_e, pl_e, nI_1]
    rfl) (by
    rw [f_X0_sumOfAll_L1, if_pos (by decide)]) (by omega)
  change lpN _ FU ((0 : Int64), (0 : Int32)) = _ at h
  rw [h, bs]
theorem countNotZero0_n (t : Nat → Int64) : f_X0_countNotZero t = some (sI (fun s => if t s = 0 then 0 else 1) 128) := by
  unfold f_X0_countNotZero
  have h := lp_cnt (body := f_X0_countNotZero_L1 t) (fun j => sI (fun s => if t s = 0 then 0 else 1) j) 128 (sI (fun s => if t s = 0 then 0 else 1) 128) (fun j hj => by
    rw [f_X0_countNotZero_L1, if_neg (by rw [show (128 : Int32) = nI 128 from rfl, nI_leI (by omega) (by omega)]; omega), gd_okI (by omega) (by omega), nI_clamp (by omega)]
    have hiff : (lg_cmp (t j) (0 : Int64) = 0) ↔ t j = 0 := by
      rw [lg_cmp0]
      exact ⟨fun h => Int64.toInt_inj.mp h, fun h => by rw [h]; rfl⟩
    by_cases hc : t j = 0
    · rw [if_pos (hiff.mpr hc), pl_e, nI_1, sI, if_pos hc]
      rw [show ∀ x : Int32, x + 0 = x from fun x => by grind]
    · rw [if_neg (fun h => hc (hiff.mp h)), pl_e, pl_e, nI_1, sI, if_neg hc]) (by
    rw [f_X0_countNotZero_L1, if_pos (by decide)]) (by omega)
  change lpN _ FU ((0 : Int32), (0 : Int32)) = _ at h
  rw [h, bs]
