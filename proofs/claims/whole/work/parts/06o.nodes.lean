/-! MATHEMATICS: nodes of the expansions -/
theorem toI32_sL (f : Nat → Int64) (n : Nat) : (sL f n).toInt32 = sI (fun k => (f k).toInt32) n := by
  induction n with
  | zero => rfl
  | succ n ih => rw [sL, sI, Int64.toInt32_add, ih]
def BW (z : Nat → Int32) (s : Nat) : Int64 := Bk (wt false) (mk z) (List.range (pc s)) (tb s)
def cN (z : Nat → Int32) (s : Nat) : Nat := ((prm (pc s) (fl (tb s) 7)).filter (whL z 0)).length
theorem pc_fl (s : Nat) : (fl (tb s) 7).length = pc s := by rw [fl_len]; exact (pcN_cnt s 7).symm
theorem lsum_nat {α : Type} (P : α → Bool) (F : α → Int64) : ∀ L : List α, (∀ a ∈ L, F a = if P a then 1 else 0) → lsum F L = Int64.ofNat (L.filter P).length := by
  intro L
  induction L with
  | nil => intro _; rfl
  | cons a L ih =>
    intro h
    show F a + lsum F L = _
    rw [ih (fun b hb => h b (List.mem_cons_of_mem _ hb)), h a List.mem_cons_self, List.filter_cons]
    by_cases hp : P a = true
    · rw [if_pos hp, if_pos hp, List.length_cons, Int64.ofNat_add]
      show (1 : Int64) + _ = _ + 1
      grind
    · rw [if_neg hp, if_neg hp]
      grind
theorem BW_nat (z : Nat → Int32) (s : Nat) : BW z s = Int64.ofNat (cN z s) ∧ (BW z s).toInt32 = nI (cN z s) := by
  have e4 := prm_sum (wt false) (mk z) (fun _ => 1) rfl (fun S a q _ _ _ => rfl) (List.range (pc s)) (tb s) (by rw [List.length_range, ← pc_fl, fl_len])
  rw [List.length_range] at e4
  have hF : ∀ q ∈ prm (pc s) (fl (tb s) 7), (1 : Int64) * prodL (mk z) (List.range (pc s)) q = if whL z 0 q then 1 else 0 := by
    intro q hq
    have := prm_perm (pc s) _ (pc_fl s) q hq
    rw [prodL_whole (by rw [this.length_eq, pc_fl])]
    split <;> rfl
  unfold BW
  rw [← e4]
  exact ⟨lsum_nat (whL z 0) _ _ hF, lsum_count (whL z 0) _ _ hF⟩
theorem cN_le (z : Nat → Int32) (s : Nat) : cN z s ≤ 5040 := by
  refine Nat.le_trans (List.length_filter_le _ _) ?_
  rw [prm_len _ _ (pc_fl s)]
  exact fct_le (pc_le s)
theorem ofNat64 {k : Nat} (h : k ≤ 5040) : (Int64.ofNat k).toInt = k := by
  show (BitVec.ofNat 64 k).toInt = _
  rw [BitVec.toInt_eq_toNat_bmod, BitVec.toNat_ofNat, Nat.mod_eq_of_lt (by omega)]
  refine Int.bmod_eq_of_le ?_ ?_
  · omega
  · omega
/-- what one set adds -/
def eN (a1 : Int32) (v : Int64) : Int32 := if a1 = 0 then v.toInt32 else if v = 0 then 0 else 1
theorem eN_zero (a1 : Int32) : eN a1 0 = 0 := by
  unfold eN
  split
  · rfl
  · rw [if_pos rfl]
theorem eN_BW (a1 : Int32) (z : Nat → Int32) (s : Nat) : eN a1 (BW z s) = if a1 = 0 then nI (cN z s) else if nI (cN z s) ≤ 0 then 0 else 1 := by
  have h1 := cN_le z s
  obtain ⟨h2, h3⟩ := BW_nat z s
  unfold eN
  rw [h3]
  by_cases h : a1 = 0
  · rw [if_pos h, if_pos h]
  · rw [if_neg h, if_neg h, h2]
    by_cases hc : cN z s = 0
    · rw [hc, if_pos (by rfl), if_pos (by decide)]
    · rw [if_neg, if_neg]
      · rw [show (0 : Int32) = nI 0 from rfl, nI_leI (by omega) (by omega)]
        omega
      · intro hh
        have := ofNat64 h1
        rw [hh] at this
        rw [show (0 : Int64).toInt = 0 from rfl] at this
        omega
theorem pc_sub : ∀ s, s < 128 → ∀ a, a < 7 → s.testBit a = true → pc (s - 2 ^ a) + 1 = pc s := by decide +kernel
theorem BW_up {z : Nat → Int32} {s : Nat} (hs : s < 128) (h0 : 0 < pc s) : (BW z s).toInt32 = sI (fun a => if s.testBit a then (if z (7 * (pc s - 1) + a) = 0 then 0 else (BW z (s - 2 ^ a)).toInt32) else 0) 7 := by
  unfold BW
  have e0 : ∀ k, 0 < k → List.range k = List.range (k - 1) ++ [k - 1] := fun k hk => by
    obtain ⟨m, rfl⟩ : ∃ m, k = m + 1 := ⟨k - 1, by omega⟩
    rw [List.range_succ]
    rfl
  have e : List.range (pc s) = List.range (pc s - 1) ++ [pc s - 1] := e0 _ h0
  rw [e, Bk_last, toI32_sL]
  refine sI_congr (fun a ha => ?_)
  by_cases hb : s.testBit a = true
  · have hp := pc_sub s hs a ha hb
    rw [if_pos hb, if_pos (show tb s a = true from hb), ← tb_sub hs ha hb, show pc (s - 2 ^ a) = pc s - 1 by omega]
    show (1 * (if z (7 * (pc s - 1) + a) = 0 then 0 else 1) * Bk (wt false) (mk z) (List.range (pc s - 1)) (tb (s - 2 ^ a))).toInt32 = _
    by_cases hz : z (7 * (pc s - 1) + a) = 0
    · rw [if_pos hz, if_pos hz]
      rw [show (1 : Int64) * 0 * Bk (wt false) (mk z) (List.range (pc s - 1)) (tb (s - 2 ^ a)) = 0 by grind]
      rfl
    · rw [if_neg hz, if_neg hz]
      congr 1
      show (1 : Int64) * 1 * Bk (wt false) (mk z) (List.range (pc s - 1)) (tb (s - 2 ^ a)) = Bk (wt false) (mk z) (List.range (pc s - 1)) (tb (s - 2 ^ a))
      grind
  · rw [if_neg hb, if_neg (show ¬ tb s a = true from hb)]
    rfl
theorem pc_pos : ∀ s, s < 128 → 0 < s → 0 < pc s := by decide +kernel
theorem sub_bit : ∀ s, s < 128 → ∀ a, a < 7 → s.testBit a = true → s - 2 ^ a < s ∧ 2 ^ a ≤ s := by decide +kernel
theorem mnodes_n {z : Nat → Int32} {n : Nat} (hz49 : z 49 = nI n) (hn : n ≤ 7) (w : Nat → Int32) (a1 : Int32) : ∃ w', f_X10_nodes z w a1 = some (sI (fun s => eN a1 (BW z s)) (2 ^ n), w') := by
  have h7 : 2 ^ n ≤ 128 := two_pow_le hn
  have hp0 : 0 < 2 ^ n := Nat.pow_pos (by omega)
  unfold f_X10_nodes
  obtain ⟨r, e1, e2⟩ := lp_cntX (body := f_X10_nodes_L1 a1 z) (fun j (a : Int32 × (Nat → Int32)) => (a.1, nI j, a.2)) (fun j a => a.1 = sI (fun s => eN a1 (BW z s)) j ∧ ∀ u, u < j → a.2 u = (BW z u).toInt32) (2 ^ n) (fun r : Int32 × (Nat → Int32) => r.1 = sI (fun s => eN a1 (BW z s)) (2 ^ n)) (fun s a hs hp => by
    obtain ⟨p1, p2⟩ := hp
    have hpc := pc_le s
    rw [f_X10_nodes_L1, mall_n hz49 hn, bs, if_neg (by rw [nI_ltI (by omega) (by omega)]; omega)]
    have ey : (if nI s = 0 then some (1 : Int32) else some (0 : Int32)) = some (if s = 0 then 1 else 0) := by
      by_cases e : s = 0
      · subst e; rfl
      · rw [if_neg (by rw [show (0 : Int32) = nI 0 from rfl, nI_eq (by omega) (by omega)]; exact e), if_neg e]
    rw [ey, bs, gd_okI (by omega) (by omega)]
    simp (disch := omega) only [nI_clamp]
    rw [pl_e, bits_n (by omega), bs, pl_e]
    have hin : lpN (f_X10_nodes_L2 (nI s) (nI (pc s) - 1) z) FU ((0 : Int32), upd a.2 s (if s = 0 then 1 else 0)) = some (upd a.2 s ((BW z s).toInt32)) := by
      by_cases e : s = 0
      · subst e
        refine lp_FUe ?_
        rw [f_X10_nodes_L2, gd_t (by decide), mz49 hz49]
        have e3 : (BW z 0).toInt32 = 1 := by
          rw [(BW_nat z 0).2]
          rfl
        rw [e3, if_pos rfl, pc_zero, if_pos (show nI 0 - (1 : Int32) < 0 by decide)]
        split <;> rfl
      · rw [if_neg e]
        have hpp := pc_pos s (by omega) (by omega)
        have hin := lp_run (body := f_X10_nodes_L2 (nI s) (nI (pc s) - 1) z) (fun j => (nI j, upd a.2 s (sI (fun c => if s.testBit c then (if z (7 * (pc s - 1) + c) = 0 then 0 else (BW z (s - 2 ^ c)).toInt32) else 0) j))) n (upd a.2 s (sI (fun c => if s.testBit c then (if z (7 * (pc s - 1) + c) = 0 then 0 else (BW z (s - 2 ^ c)).toInt32) else 0) n)) (fun j hj => by
          have hup : ∀ x y : Int32, upd (upd a.2 s x) s y = upd a.2 s y := by
            intro x y
            funext k
            unfold upd
            by_cases hk : k = s
            · rw [if_pos hk, if_pos hk]
            · rw [if_neg hk, if_neg hk, if_neg hk]
          have hus : ∀ x : Int32, upd a.2 s x s = x := by
            intro x
            unfold upd
            rw [if_pos rfl]
          rw [f_X10_nodes_L2, gd_t (by decide), mz49 hz49, if_neg (by rw [nI_leI (by omega) (by omega)]; omega), nI_sub1 (by omega), if_neg (by rw [show (0 : Int32) = nI 0 from rfl, nI_ltI (by omega) (by omega)]; omega), gd_okI (by omega) (by omega), bit_n s (by omega) j (by omega)]
          by_cases hb : s.testBit j = true
          · obtain ⟨b1, b2⟩ := sub_bit s (by omega) j (by omega) hb
            rw [if_pos hb, if_pos (by rfl), mat_n (by omega) (by omega), bs]
            by_cases hz : z (7 * (pc s - 1) + j) = 0
            · rw [if_pos hz, gd_okI (by omega) (by omega), nI_clamp (by omega), pl_e, pl_e, nI_1, hus, hup, sI, if_pos hb, if_pos hz]
            · rw [if_neg hz, sh1 j (by omega), show nI s - nI (2 ^ j) = nI (s - 2 ^ j) from pk_sub b2, gd_okI (Nat.lt_of_lt_of_le b1 (by omega)) (by omega), gd_okI (by omega) (by omega), nI_clamp (by omega), nI_clamp (Nat.lt_of_lt_of_le b1 (by omega)), pl_e, pl_e, nI_1, hus, hup, sI, if_pos hb, if_neg hz]
              have : upd a.2 s (sI (fun c => if s.testBit c then (if z (7 * (pc s - 1) + c) = 0 then 0 else (BW z (s - 2 ^ c)).toInt32) else 0) j) (s - 2 ^ j) = (BW z (s - 2 ^ j)).toInt32 := by
                unfold upd
                rw [if_neg (Nat.ne_of_lt b1)]
                exact p2 _ b1
              rw [this]
          · rw [if_neg hb, if_neg (by decide), gd_okI (by omega) (by omega), nI_clamp (by omega), pl_e, pl_e, nI_1, hus, hup, sI, if_neg hb]) (by
          rw [f_X10_nodes_L2, gd_t (by decide), mz49 hz49, if_pos (by rw [nI_leI (by omega) (by omega)]; omega)]) (FU_lt (by omega))
        change lpN _ FU ((0 : Int32), upd a.2 s 0) = _ at hin
        rw [hin, BW_up (by omega) hpp, sI_tail hn (fun k hk1 hk2 => by
          rw [tb_lt n hn s hs k hk2 hk1]
          rfl)]
    rw [hin, bs]
    have hus : upd a.2 s (BW z s).toInt32 s = (BW z s).toInt32 := by
      unfold upd
      rw [if_pos rfl]
    have hnext : ∀ u, u < s + 1 → upd a.2 s (BW z s).toInt32 u = (BW z u).toInt32 := by
      intro u hu
      unfold upd
      by_cases e : u = s
      · rw [if_pos e, e]
      · rw [if_neg e]
        exact p2 u (by omega)
    have hcw := (BW_nat z s).2
    have heN := eN_BW a1 z s
    by_cases ha : a1 = 0
    · rw [if_pos ha, gd_okI (by omega) (by omega), pl_e, pl_e, nI_1, hus]
      refine ⟨(a.1 + (BW z s).toInt32, upd a.2 s (BW z s).toInt32), rfl, ?_, hnext⟩
      show a.1 + _ = _
      rw [sI, heN, if_pos ha, p1, hcw]
    · rw [if_neg ha] at heN
      rw [if_neg ha, gd_okI (by omega) (by omega)]
      have hus2 : upd a.2 s (nI (cN z s)) s = nI (cN z s) := by
        unfold upd
        rw [if_pos rfl]
      simp only [hcw, hus2]
      rw [hcw] at hnext
      by_cases hle : nI (cN z s) ≤ 0
      · rw [if_pos hle] at heN
        rw [if_pos hle, pl_e, pl_e, nI_1]
        refine ⟨(a.1 + 0, upd a.2 s (nI (cN z s))), rfl, ?_, hnext⟩
        show a.1 + 0 = _
        rw [sI, heN, p1]
      · rw [if_neg hle] at heN
        rw [if_neg hle, pl_e, pl_e, nI_1]
        refine ⟨(a.1 + 1, upd a.2 s (nI (cN z s))), rfl, ?_, hnext⟩
        show a.1 + 1 = _
        rw [sI, heN, p1]) (fun a hp => by
    rw [f_X10_nodes_L1, mall_n hz49 hn, bs, if_pos (by rw [nI_ltI (by omega) (by omega)]; omega)]
    exact ⟨_, rfl, hp.1⟩) (FU_lt (by omega)) (a := ((0 : Int32), w)) ⟨rfl, fun u hu => absurd hu (by omega)⟩
  change lpN _ FU ((0 : Int32), (0 : Int32), w) = _ at e1
  rw [e1, bs]
  obtain ⟨r1, r2⟩ := r
  dsimp only at e2 ⊢
  rw [e2]
  exact ⟨r2, rfl⟩
theorem sI_single (q : Nat) (v : Int32) : ∀ n, sI (fun a => if a = q then v else 0) n = if q < n then v else 0 := by
  intro n
  induction n with
  | zero => rfl
  | succ n ih =>
    rw [sI, ih]
    by_cases h : n = q
    · rw [if_pos h, if_neg (by omega), if_pos (by omega)]
      grind
    · rw [if_neg h]
      by_cases h2 : q < n
      · rw [if_pos h2, if_pos (by omega)]
        grind
      · rw [if_neg h2, if_neg (by omega)]
        grind
theorem sI_add2 (f g : Nat → Int32) (n : Nat) : sI (fun k => f k + g k) n = sI f n + sI g n := by
  induction n with
  | zero => rfl
  | succ n ih => rw [sI, sI, sI, ih]; grind
theorem sI_swap (f : Nat → Nat → Int32) (m n : Nat) : sI (fun i => sI (fun j => f i j) n) m = sI (fun j => sI (fun i => f i j) m) n := by
  induction m with
  | zero => show (0 : Int32) = sI (fun j => 0) n; rw [sI_zero]
  | succ m ih =>
    show sI (fun i => sI (fun j => f i j) n) m + sI (fun j => f m j) n = sI (fun j => sI (fun i => f i j) m + f m j) n
    rw [ih, sI_add2]
/-- the class's sum of one row, in 32 bits -/
theorem row_eN {t : Nat → Int64} {G : (Nat → Bool) → Int64} {n : Nat} (hn : n ≤ 7) (h : Dp n t G) (a1 : Int32) : sI (fun s => eN a1 (t s)) 128 = sI (fun s => eN a1 (G (tb s))) (2 ^ n) := by
  have h7 : 2 ^ n ≤ 128 := two_pow_le hn
  rw [sI_tail (n := 2 ^ n) h7 (fun k h1 h2 => by rw [h k h2, if_neg (by omega), eN_zero])]
  exact sI_congr (fun s hs => by rw [h s (by omega), if_pos hs])
theorem rows_eN {cell : Nat → Nat → Int64} {n : Nat} (hn : n ≤ 7) (a1 : Int32) : 1 + sI (fun r => sI (fun s => eN a1 (Bk (wt false) cell (List.range (r + 1)) (tb s))) (2 ^ n)) n = sI (fun s => eN a1 (Bk (wt false) cell (List.range (pc s)) (tb s))) (2 ^ n) := by
  have h7 : 2 ^ n ≤ 128 := two_pow_le hn
  have hp0 : 0 < 2 ^ n := Nat.pow_pos (by omega)
  rw [sI_swap]
  have e1 : ∀ s, s < 2 ^ n → sI (fun r => eN a1 (Bk (wt false) cell (List.range (r + 1)) (tb s))) n + (if s = 0 then 1 else 0) = eN a1 (Bk (wt false) cell (List.range (pc s)) (tb s)) := by
    intro s hs
    by_cases e : s = 0
    · subst e
      rw [if_pos rfl, sI_congr (g := fun _ => 0) (fun r hr => by
        rw [Bk_zero _ _ _ _ (by rw [List.length_range, show cntB (tb 0) 7 = 0 by decide]; omega), eN_zero]), sI_zero, pc_zero]
      show (0 : Int32) + 1 = eN a1 (if cntB (tb 0) 7 = 0 then 1 else 0)
      rw [show cntB (tb 0) 7 = 0 by decide, if_pos rfl]
      unfold eN
      by_cases ha : a1 = 0
      · rw [if_pos ha]; rfl
      · rw [if_neg ha]; rfl
    · have hpp := pc_pos s (by omega) (by omega)
      have hpl : pc s ≤ n := pc_len hn hs
      have hcnt : cntB (tb s) 7 = pc s := by rw [← fl_len, pc_fl]
      rw [if_neg e, sI_congr (g := fun r => if r = pc s - 1 then eN a1 (Bk (wt false) cell (List.range (pc s)) (tb s)) else 0) (fun r hr => by
        by_cases er : r = pc s - 1
        · rw [if_pos er, show r + 1 = pc s by omega]
        · rw [if_neg er, Bk_zero _ _ _ _ (by rw [List.length_range, hcnt]; omega), eN_zero]), sI_single, if_pos (by omega)]
      grind
  rw [← sI_congr e1, sI_add2, sI_single, if_pos hp0]
  grind
theorem sumOfAll0_n (t : Nat → Int64) : f_X0_sumOfAll t = some (sL t 128) := by
  unfold f_X0_sumOfAll
  have h := lp_cnt (body := f_X0_sumOfAll_L1 t) (fun j => sL t j) 128 (sL t 128) (fun j hj => by
    rw [f_X0_sumOfAll_L1, if_neg (by rw [show (128 : Int32) = nI 128 from rfl, nI_leI (by omega) (by omega)]; omega), gd_okI (by omega) (by omega), nI_clamp (by omega), pl_e, pl_e, nI_1]
    rfl) (by
    rw [f_X0_sumOfAll_L1, if_pos (by decide)]) (by omega)
  change lpN _ FU ((0 : Int64), (0 : Int32)) = _ at h
  rw [h, bs]
theorem countNotZero0_n (t : Nat → Int64) : f_X0_countNotZero t = some (sI (fun s => if t s = 0 then 0 else 1) 128) := by
  unfold f_X0_countNotZero
  have h := lp_cnt (body := f_X0_countNotZero_L1 t) (fun j => sI (fun s => if t s = 0 then 0 else 1) j) 128 (sI (fun s => if t s = 0 then 0 else 1) 128) (fun j hj => by
    rw [f_X0_countNotZero_L1, if_neg (by rw [show (128 : Int32) = nI 128 from rfl, nI_leI (by omega) (by omega)]; omega), gd_okI (by omega) (by omega), nI_clamp (by omega)]
    have hiff : (lg_cmp (t j) (0 : Int64) = 0) ↔ t j = 0 := by
      rw [lg_cmp0]
      exact ⟨fun h => Int64.toInt_inj.mp h, fun h => by rw [h]; rfl⟩
    by_cases hc : t j = 0
    · rw [if_pos (hiff.mpr hc), pl_e, nI_1, sI, if_pos hc]
      rw [show ∀ x : Int32, x + 0 = x from fun x => by grind]
    · rw [if_neg (fun h => hc (hiff.mp h)), pl_e, pl_e, nI_1, sI, if_neg hc]) (by
    rw [f_X0_countNotZero_L1, if_pos (by decide)]) (by omega)
  change lpN _ FU ((0 : Int32), (0 : Int32)) = _ at h
  rw [h, bs]
theorem st_nodes {n : Nat} {c z : Nat → Int32} (h : Mx n c z) (ms : Int32) (mc : Nat → Int32) (t : Nat → Int64) (w : Nat → Int32) (a1 : Int32) : ∃ r ms' mc' t' w', f_X9_nodes (nI n) c ms mc t a1 = some (r, ms', mc', t') ∧ f_X10_nodes z w a1 = some (r, w') := by
  obtain ⟨h1, hn, hc, hz49, h0, hz⟩ := h
  obtain ⟨w', e1⟩ := mnodes_n hz49 hn w a1
  obtain ⟨mc', e2, e3⟩ := marks_n h1 hn ms mc c
  obtain ⟨t1, e4, e5⟩ := begin_n t
  unfold f_X9_nodes
  rw [e2, bs]
  dsimp only
  rw [e4, bs]
  obtain ⟨y, e6, e7⟩ := lp_cntX (body := f_X9_nodes_L1 a1 (nI n) mc') (fun j (a : Int64 × (Nat → Int64)) => (a.1, nI j, a.2)) (fun j a => a.1.toInt32 = 1 + sI (fun r => sI (fun s => eN a1 (Bk (wt false) (cl mc') (List.range (r + 1)) (tb s))) (2 ^ n)) j ∧ Dp n a.2 (Bk (wt false) (cl mc') (List.range j))) n (fun y : Int64 × (Nat → Int64) => y.1.toInt32 = 1 + sI (fun r => sI (fun s => eN a1 (Bk (wt false) (cl mc') (List.range (r + 1)) (tb s))) (2 ^ n)) n) (fun j a hj hp => by
    obtain ⟨p1, p2⟩ := hp
    obtain ⟨t', g1, g2⟩ := takeRow_Dp hn hj false mc' p2
    rw [← List.range_succ] at g2
    change f_X0_takeRow a.2 (nI n) mc' (nI j) (0 : Int32) = some t' at g1
    have hrow := row_eN hn g2 a1
    have hst : sI (fun r => sI (fun s => eN a1 (Bk (wt false) (cl mc') (List.range (r + 1)) (tb s))) (2 ^ n)) (j + 1) = sI (fun r => sI (fun s => eN a1 (Bk (wt false) (cl mc') (List.range (r + 1)) (tb s))) (2 ^ n)) j + sI (fun s => eN a1 (t' s)) 128 := by
      rw [hrow]
      rfl
    rw [f_X9_nodes_L1, f_X4_size, bs, if_neg (by rw [nI_leI (by omega) (by omega)]; omega), g1, bs]
    by_cases ha : a1 = 0
    · rw [if_pos ha, sumOfAll0_n, bs, pl_e, pl_e, nI_1]
      refine ⟨(a.1 + sL t' 128, t'), rfl, ?_, g2⟩
      show (a.1 + sL t' 128).toInt32 = _
      rw [Int64.toInt32_add, p1, toI32_sL, hst]
      have : (fun s => eN a1 (t' s)) = fun s => (t' s).toInt32 := by
        funext s
        unfold eN
        rw [if_pos ha]
      rw [this]
      grind
    · rw [if_neg ha, countNotZero0_n, bs, pl_e, pl_e, nI_1]
      refine ⟨(a.1 + (sI (fun s => if t' s = 0 then 0 else 1) 128).toInt64, t'), rfl, ?_, g2⟩
      show (a.1 + (sI (fun s => if t' s = 0 then 0 else 1) 128).toInt64).toInt32 = _
      rw [Int64.toInt32_add, p1, Int32.toInt32_toInt64, hst]
      have : (fun s => eN a1 (t' s)) = fun s => if t' s = 0 then 0 else 1 := by
        funext s
        unfold eN
        rw [if_neg ha]
      rw [this]
      grind) (fun a hp => by
    rw [f_X9_nodes_L1, f_X4_size, bs, if_pos (by rw [nI_leI (by omega) (by omega)]; omega)]
    exact ⟨_, rfl, hp.1⟩) (FU_lt (by omega)) (a := ((1 : Int64), t1)) ⟨rfl, begin_Dp _ _ e5⟩
  change lpN _ FU ((1 : Int64), (0 : Int32), t1) = _ at e6
  rw [e6, bs]
  obtain ⟨y1, y2⟩ := y
  dsimp only at e7 ⊢
  rw [e7, rows_eN hn a1]
  refine ⟨_, _, _, _, w', rfl, ?_⟩
  rw [e1]
  congr 2
  refine sI_congr (fun s hs => ?_)
  unfold BW
  congr 1
  have h7 : 2 ^ n ≤ 128 := two_pow_le hn
  refine Bk_cell (wt false) _ _ (fun r hr a ha hS => ?_)
  have h2 := List.mem_range.mp hr
  have h3 := pc_len hn hs
  exact (marks_cl hn hc e3 r a (by omega) (tb_in hn hs ha hS)).symm
