/-! MATHEMATICS: determinants, diagonals through a cell -/
def sN (f : Nat → Nat) : Nat → Nat
  | 0 => 0
  | n + 1 => sN f n + f n
theorem sN_shift (f : Nat → Nat) (n : Nat) : sN f (n + 1) = f 0 + sN (fun k => f (k + 1)) n := by
  induction n with
  | zero => show 0 + f 0 = f 0 + 0; omega
  | succ n ih => rw [sN, ih, sN]; omega
theorem sN_congr {f g : Nat → Nat} {n : Nat} (h : ∀ k, k < n → f k = g k) : sN f n = sN g n := by
  induction n with
  | zero => rfl
  | succ n ih => rw [sN, sN, ih (fun k hk => h k (by omega)), h n (by omega)]
def invF (P : Nat → Nat) (m : Nat) : Nat := sN (fun j => cntB (fun k => decide (j < k) && decide (P k < P j)) m) m
theorem sN_le {f : Nat → Nat} {n c : Nat} (h : ∀ k, k < n → f k ≤ c) : sN f n ≤ n * c := by
  induction n with
  | zero => exact Nat.zero_le _
  | succ n ih =>
    have h1 := ih (fun k hk => h k (by omega))
    have h2 := h n (by omega)
    rw [sN, Nat.succ_mul]
    omega
theorem invF_le {P : Nat → Nat} {m : Nat} (h : m ≤ 7) : invF P m ≤ 49 := by
  have : invF P m ≤ m * 7 := sN_le (fun k _ => Nat.le_trans (cntB_le _ _) h)
  omega
theorem invF_cons (P : Nat → Nat) (m : Nat) : invF P (m + 1) = cntB (fun k => decide (P (k + 1) < P 0)) m + invF (fun k => P (k + 1)) m := by
  unfold invF
  rw [sN_shift]
  congr 1
  · rw [show m + 1 = 1 + m by omega, cntB_add]
    show (0 + if (decide (0 < 0) && decide (P 0 < P 0)) = true then 1 else 0) + _ = _
    rw [if_neg (by simp), Nat.zero_add]
    refine cntB_congr (fun k _ => ?_)
    rw [show 1 + k = k + 1 by omega]
    simp
  · refine sN_congr (fun j _ => ?_)
    rw [show m + 1 = 1 + m by omega, cntB_add]
    show (0 + if (decide (j + 1 < 0) && decide (P 0 < P (j + 1))) = true then 1 else 0) + _ = _
    rw [if_neg (by simp), Nat.zero_add]
    refine cntB_congr (fun k _ => ?_)
    rw [show 1 + k = k + 1 by omega]
    simp
theorem cntB_list (Q : Nat → Bool) : ∀ q : List Nat, cntB (fun k => Q (q.getD k 0)) q.length = q.countP Q := by
  intro q
  induction q with
  | nil => rfl
  | cons a q ih =>
    rw [List.length_cons, show q.length + 1 = 1 + q.length by omega, cntB_add, List.countP_cons, ← ih]
    show (0 + if Q a = true then 1 else 0) + _ = _
    rw [Nat.zero_add, Nat.add_comm]
    congr 1
    refine cntB_congr (fun k _ => ?_)
    rw [show 1 + k = k + 1 by omega]
    rfl
theorem countP_fl (S Q : Nat → Bool) (n : Nat) : (fl S n).countP Q = cntB (fun x => S x && Q x) n := by
  induction n with
  | zero => rfl
  | succ n ih =>
    rw [fl_succ, List.countP_append, ih, cntB]
    by_cases h : S n = true
    · rw [if_pos h, h, List.countP_cons, List.countP_nil]
      simp
    · rw [if_neg h]
      simp [h]
def sgq (q : List Nat) : Int64 := sg (invF (fun i => q.getD i 0) q.length)
theorem sgq_cons : ∀ S a q, a < 7 → S a = true → q.Perm (fl (dl S a) 7) → sgq (a :: q) = wt true S a * sgq q := by
  intro S a q ha hS hp
  show sg (invF (fun i => (a :: q).getD i 0) (q.length + 1)) = sg (ltc S a) * sg (invF (fun i => q.getD i 0) q.length)
  rw [invF_cons, sg_add]
  congr 2
  show cntB (fun k => decide (q.getD k 0 < a)) q.length = _
  rw [cntB_list (fun x => decide (x < a)), hp.countP_eq, countP_fl]
  have := cntB_dl (R := fun x => decide (x < a)) hS 7
  rw [if_neg (by simp)] at this
  exact this
theorem odd_n : ∀ k, k < 50 → ((nI k - nI k / (2 : Int32) * (2 : Int32)) = 0 ↔ k % 2 = 0) := by decide +kernel
theorem range_getD {n i : Nat} (h : i < n) : (List.range n).getD i 0 = i := by
  rw [List.getD_eq_getElem?_getD, List.getElem?_eq_getElem (by simpa using h), List.getElem_range]
  rfl
theorem map_range_id {n : Nat} {p : List Nat} (h : ∀ v ∈ p, v < n) : p.map (fun i => (List.range n).getD i 0) = p := by
  have : p.map (fun i => (List.range n).getD i 0) = p.map id := List.map_congr_left (fun v hv => range_getD (h v hv))
  rw [this, List.map_id]
theorem tb_full_cnt : ∀ n, n ≤ 7 → cntB (tb (2 ^ n - 1)) 7 = n := by decide +kernel
