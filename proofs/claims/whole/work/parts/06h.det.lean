/-! MATHEMATICS: determinants, diagonals through a cell -/
def sN (f : Nat → Nat) : Nat → Nat
  | 0 => 0
  | n + 1 => sN f n + f n
theorem sN_shift (f : Nat → Nat) (n : Nat) : sN f (n + 1) = f 0 + sN (fun k => f (k + 1)) n := by
  induction n with
  | zero => show 0 + f 0 = f 0 + 0; omega
  | succ n ih => rw [sN, ih, sN]; omega
theorem sN_congr {f g : Nat → Nat} {n : Nat} (h : ∀ k, k < n → f k = g k) : sN f n = sN g n := by
  induction n with
  | zero => rfl
  | succ n ih => rw [sN, sN, ih (fun k hk => h k (by omega)), h n (by omega)]
def invF (P : Nat → Nat) (m : Nat) : Nat := sN (fun j => cntB (fun k => decide (j < k) && decide (P k < P j)) m) m
theorem sN_le {f : Nat → Nat} {n c : Nat} (h : ∀ k, k < n → f k ≤ c) : sN f n ≤ n * c := by
  induction n with
  | zero => exact Nat.zero_le _
  | succ n ih =>
    have h1 := ih (fun k hk => h k (by omega))
    have h2 := h n (by omega)
    rw [sN, Nat.succ_mul]
    omega
theorem invF_le {P : Nat → Nat} {m : Nat} (h : m ≤ 7) : invF P m ≤ 49 := by
  have : invF P m ≤ m * 7 := sN_le (fun k _ => Nat.le_trans (cntB_le _ _) h)
  omega
theorem invF_cons (P : Nat → Nat) (m : Nat) : invF P (m + 1) = cntB (fun k => decide (P (k + 1) < P 0)) m + invF (fun k => P (k + 1)) m := by
  unfold invF
  rw [sN_shift]
  congr 1
  · rw [show m + 1 = 1 + m by omega, cntB_add]
    show (0 + if (decide (0 < 0) && decide (P 0 < P 0)) = true then 1 else 0) + _ = _
    rw [if_neg (by simp), Nat.zero_add]
    refine cntB_congr (fun k _ => ?_)
    rw [show 1 + k = k + 1 by omega]
    simp
  · refine sN_congr (fun j _ => ?_)
    rw [show m + 1 = 1 + m by omega, cntB_add]
    show (0 + if (decide (j + 1 < 0) && decide (P 0 < P (j + 1))) = true then 1 else 0) + _ = _
    rw [if_neg (by simp), Nat.zero_add]
    refine cntB_congr (fun k _ => ?_)
    rw [show 1 + k = k + 1 by omega]
    simp
theorem cntB_list (Q : Nat → Bool) : ∀ q : List Nat, cntB (fun k => Q (q.getD k 0)) q.length = q.countP Q := by
  intro q
  induction q with
  | nil => rfl
  | cons a q ih =>
    rw [List.length_cons, show q.length + 1 = 1 + q.length by omega, cntB_add, List.countP_cons, ← ih]
    show (0 + if Q a = true then 1 else 0) + _ = _
    rw [Nat.zero_add, Nat.add_comm]
    congr 1
    refine cntB_congr (fun k _ => ?_)
    rw [show 1 + k = k + 1 by omega]
    rfl
theorem countP_fl (S Q : Nat → Bool) (n : Nat) : (fl S n).countP Q = cntB (fun x => S x && Q x) n := by
  induction n with
  | zero => rfl
  | succ n ih =>
    rw [fl_succ, List.countP_append, ih, cntB]
    by_cases h : S n = true
    · rw [if_pos h, h, List.countP_cons, List.countP_nil]
      simp
    · rw [if_neg h]
      simp [h]
def sgq (q : List Nat) : Int64 := sg (invF (fun i => q.getD i 0) q.length)
theorem sgq_cons : ∀ S a q, a < 7 → S a = true → q.Perm (fl (dl S a) 7) → sgq (a :: q) = wt true S a * sgq q := by
  intro S a q ha hS hp
  show sg (invF (fun i => (a :: q).getD i 0) (q.length + 1)) = sg (ltc S a) * sg (invF (fun i => q.getD i 0) q.length)
  rw [invF_cons, sg_add]
  congr 2
  show cntB (fun k => decide (q.getD k 0 < a)) q.length = _
  rw [cntB_list (fun x => decide (x < a)), hp.countP_eq, countP_fl]
  have := cntB_dl (R := fun x => decide (x < a)) hS 7
  rw [if_neg (by simp)] at this
  exact this
theorem pairsTurned_n {z o : Nat → Int32} {n : Nat} {p : List Nat} (hz49 : z 49 = nI n) (hn : n ≤ 7) (hl : p.length = n) (hv : ∀ v ∈ p, v < n) (ho : Od o p) : f_X10_pairsTurned z o = some (nI (invF (fun i => p.getD i 0) n)) := by
  have hmem : ∀ i, i < n → p.getD i 0 < n := by
    intro i hi
    refine hv _ ?_
    rw [List.getD_eq_getElem?_getD, List.getElem?_eq_getElem (by omega)]
    exact List.getElem_mem _
  unfold f_X10_pairsTurned
  have h := lp_cnt (body := f_X10_pairsTurned_L1 z o) (fun j => nI (sN (fun j => cntB (fun k => decide (j < k) && decide (p.getD k 0 < p.getD j 0)) n) j)) n (nI (invF (fun i => p.getD i 0) n)) (fun j hj => by
    rw [f_X10_pairsTurned_L1, gd_t (by decide), mz49 hz49, if_neg (by rw [nI_leI (by omega) (by omega)]; omega), pl_e]
    have hin := lp_run (body := f_X10_pairsTurned_L2 (nI j) z o) (fun i => (nI (sN (fun j => cntB (fun k => decide (j < k) && decide (p.getD k 0 < p.getD j 0)) n) j + cntB (fun k => decide (j < k) && decide (p.getD k 0 < p.getD j 0)) (j + 1 + i)), nI (j + 1 + i))) (n - (j + 1)) (nI (sN (fun j => cntB (fun k => decide (j < k) && decide (p.getD k 0 < p.getD j 0)) n) (j + 1))) (fun i hi => by
      have m1 := hmem j hj
      have m2 := hmem (j + 1 + i) (by omega)
      rw [f_X10_pairsTurned_L2, gd_t (by decide), mz49 hz49, if_neg (by rw [nI_leI (by omega) (by omega)]; omega), gd_okI (by omega) (by omega), gd_okI (by omega) (by omega), nI_clamp (by omega), nI_clamp (by omega), ho.getD (by omega), ho.getD (by omega)]
      by_cases hc : p.getD (j + 1 + i) 0 < p.getD j 0
      · rw [if_neg (by rw [nI_leI (by omega) (by omega)]; omega), pl_e, pl_e, nI_1, nI_1]
        rw [show j + 1 + (i + 1) = (j + 1 + i) + 1 by omega, cntB, if_pos (by simp; exact ⟨by omega, hc⟩)]
        rfl
      · rw [if_pos (by rw [nI_leI (by omega) (by omega)]; omega), pl_e, pl_e, show ∀ a, nI a + (1 : Int32) = nI (a + 1) from fun a => nI_add _ _, show ∀ a, nI a + (0 : Int32) = nI a from fun a => nI_add a 0]
        rw [show j + 1 + (i + 1) = (j + 1 + i) + 1 by omega, cntB, if_neg (by simp; intro _; simpa using hc)]
        rfl) (by
      rw [f_X10_pairsTurned_L2, gd_t (by decide), mz49 hz49, if_pos (by rw [nI_leI (by omega) (by omega)]; omega), show j + 1 + (n - (j + 1)) = n by omega]
      rfl) (FU_lt (by omega))
    have e0 : cntB (fun k => decide (j < k) && decide (p.getD k 0 < p.getD j 0)) (j + 1 + 0) = 0 := cntB_false (fun k hk => by simp; omega)
    rw [e0, Nat.add_zero, Nat.add_zero] at hin
    rw [show ∀ a, nI a + (1 : Int32) = nI (a + 1) from fun a => nI_add _ _, hin, bs, pl_e]) (by
    rw [f_X10_pairsTurned_L1, gd_t (by decide), mz49 hz49, if_pos (by rw [nI_leI (by omega) (by omega)]; omega)]
    rfl) (by omega)
  change lpN _ FU ((0 : Int32), (0 : Int32)) = _ at h
  rw [h, bs]
theorem odd_n : ∀ k, k < 50 → ((nI k - nI k / (2 : Int32) * (2 : Int32)) = 0 ↔ k % 2 = 0) := by decide +kernel
theorem take_all {n : Nat} (hn : n ≤ 7) (a : Nat → Int32) : ∃ a', f_X10_take 7 a (nI (2 ^ n - 1)) = some (nI n, a') ∧ Od a' (List.range n) := by
  have h7 : 2 ^ n ≤ 128 := two_pow_le hn
  have hp0 : 0 < 2 ^ n := Nat.pow_pos (by omega)
  obtain ⟨a', e1, e2⟩ := take_n (R := 2 ^ n - 1) (by omega) a
  rw [fl_full n hn] at e1 e2
  rw [List.length_range] at e1
  exact ⟨a', e1, e2⟩
theorem range_getD {n i : Nat} (h : i < n) : (List.range n).getD i 0 = i := by
  rw [List.getD_eq_getElem?_getD, List.getElem?_eq_getElem (by simpa using h), List.getElem_range]
  rfl
theorem map_range_id {n : Nat} {p : List Nat} (h : ∀ v ∈ p, v < n) : p.map (fun i => (List.range n).getD i 0) = p := by
  have : p.map (fun i => (List.range n).getD i 0) = p.map id := List.map_congr_left (fun v hv => range_getD (h v hv))
  rw [this, List.map_id]
theorem tb_full_cnt : ∀ n, n ≤ 7 → cntB (tb (2 ^ n - 1)) 7 = n := by decide +kernel
theorem st_determinant {n : Nat} {c z : Nat → Int32} (h : Mx n c z) (t : Nat → Int64) (o rt ct : Nat → Int32) : ∃ r t' o' rt' ct', f_X9_determinant (nI n) c t = some (r, t') ∧ f_X10_determinant z o rt ct = some (r, o', rt', ct') := by
  obtain ⟨h1, hn, hc, hz49, h0, hz⟩ := h
  have hlt := full_lt n
  obtain ⟨t', e1⟩ := determinant_n hn t c
  unfold f_X10_determinant
  obtain ⟨rt', e2, e3⟩ := take_all hn rt
  obtain ⟨ct', e4, e5⟩ := take_all hn ct
  rw [mall_n hz49 hn, bs, e2, bs]
  dsimp only
  rw [bs, e4, bs]
  dsimp only
  rw [gd_t (by decide), mz49 hz49]
  obtain ⟨o1, e6, e7⟩ := first_n hn o
  rw [e6, bs]
  obtain ⟨o2, e8⟩ := lp_permF (body := f_X10_determinant_L1 z rt' ct') hn (fun (x : Int64) f o => (x, f, o)) (fun x p => x + sgq p * prodL (cl z) (List.range n) p) (fun x o => (x, o)) (fun x p o hp1 hp2 ho => by
    have hpr := product_n (z := z) (m := n) hn List.length_range List.length_range hp1 (fun v hv => by have := List.mem_range.mp hv; omega) (fun v hv => by have := List.mem_range.mp hv; omega) hp2 ho e3 e5
    rw [map_range_id hp2] at hpr
    have hle := invF_le (P := fun i => p.getD i 0) hn
    rw [f_X10_determinant_L1, if_neg (by decide), gd_t (by decide), mz49 hz49, hpr, bs, pairsTurned_n hz49 hn hp1 hp2 ho, bs]
    by_cases hev : invF (fun i => p.getD i 0) n % 2 = 0
    · rw [if_pos ((odd_n _ (by omega)).mpr hev), bs, pl_e, gd_t (by decide)]
      have : sgq p = 1 := by
        unfold sgq sg
        rw [hp1, if_pos hev]
      rw [this]
      rw [show x + prodL (cl z) (List.range n) p = x + 1 * prodL (cl z) (List.range n) p by grind]
    · rw [if_neg (fun hh => hev ((odd_n _ (by omega)).mp hh)), bs, pl_e, gd_t (by decide)]
      have : sgq p = -1 := by
        unfold sgq sg
        rw [hp1, if_neg hev]
      rw [this]
      rw [show x + -prodL (cl z) (List.range n) p = x + -1 * prodL (cl z) (List.range n) p by grind]) (fun x o => by
    rw [f_X10_determinant_L1, if_pos rfl]) (0 : Int64) o1 e7
  rw [e8, bs]
  refine ⟨_, t', o2, rt', ct', e1, ?_⟩
  congr 2
  rw [lsum_fold]
  have e9 := prm_sum (wt true) (cl z) sgq rfl sgq_cons (List.range n) (tb (2 ^ n - 1)) (by rw [List.length_range, tb_full_cnt n hn])
  rw [List.length_range, fl_full n hn] at e9
  rw [e9]
  rw [Bk_cell (wt true) (cell := cl c) (cell' := cl z) (List.range n) (tb (2 ^ n - 1)) (fun r hr a ha hS => by
    have := List.mem_range.mp hr
    show (c (7 * r + a)).toInt64 = (z (7 * r + a)).toInt64
    rw [hc _ (by omega)])]
  grind
