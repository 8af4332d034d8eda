/-! MATHEMATICS, part d: extremes, symmetry, counts -/
def mxv (a b : Int32) : Int32 := if a < b then b else a
def mnv (a b : Int32) : Int32 := if b < a then b else a
/-- over the first j entries of n columns, row by row, from the entry (0, 0) -/
def extA (f : Int32 → Int32 → Int32) (z : Nat → Int32) (n : Nat) : Nat → Int32
  | 0 => z 0
  | j + 1 => f (extA f z n j) (z (7 * (j / n) + j % n))
theorem divmod_row {n r q : Nat} (hq : q < n) : (n * r + q) / n = r ∧ (n * r + q) % n = q := by
  have hn : 0 < n := by omega
  constructor
  · rw [Nat.mul_add_div hn, Nat.div_eq_of_lt hq, Nat.add_zero]
  · rw [Nat.mul_add_mod, Nat.mod_eq_of_lt hq]
theorem mul_lt7 {n r q : Nat} (hr : r < n) (hq : q < n) (hn : n ≤ 7) : n * r + q < n * n ∧ n * n ≤ 49 := by
  have h1 : n * r + n ≤ n * n := by
    have := Nat.mul_le_mul_left n (show r + 1 ≤ n by omega)
    rw [Nat.mul_add, Nat.mul_one] at this
    exact this
  have h2 : n * n ≤ 7 * 7 := Nat.mul_le_mul hn hn
  omega
theorem greatest_n {n : Nat} (h1 : 1 ≤ n) (hn : n ≤ 7) (z : Nat → Int32) : f_X4_greatest (nI n) z = some (extA mxv z n (n * n)) := by
  unfold f_X4_greatest
  rw [show (0 : Int32) = nI 0 from rfl, at_n h1 h1 hn, bs]
  have h := lp_cnt (body := f_X4_greatest_L1 (nI n) z) (fun r => extA mxv z n (n * r)) n (extA mxv z n (n * n)) (fun r hr => by
    rw [f_X4_greatest_L1]
    have h2 := lp_cnt (body := f_X4_greatest_L2 (nI r) (nI n) z) (fun q => extA mxv z n (n * r + q)) n (extA mxv z n (n * (r + 1))) (fun q hq => by
      rw [f_X4_greatest_L2]
      rw [at_n hr hq hn]
      simp (disch := omega) only [lit32, bs, pl_e, gd_okI, nI_leI, nI_ltI, nI_eq, nI_add, pk_mul, pk_sub, nI_m1', nI_clamp, if_pos, if_neg, ↓reduceIte]
      have e : extA mxv z n (n * r + (q + 1)) = mxv (extA mxv z n (n * r + q)) (z (7 * r + q)) := by
        show extA mxv z n (n * r + q + 1) = _
        rw [extA, (divmod_row hq).1, (divmod_row hq).2]
      rw [e]
      rfl) (by
      rw [f_X4_greatest_L2]
      simp (disch := omega) only [lit32, bs, pl_e, gd_okI, nI_leI, nI_ltI, nI_eq, nI_add, pk_mul, pk_sub, nI_m1', nI_clamp, if_pos, if_neg, ↓reduceIte]
      rw [Nat.mul_add, Nat.mul_one]) (by omega)
    have h3 : lpN (f_X4_greatest_L2 (nI r) (nI n) z) FU (extA mxv z n (n * r), (0 : Int32)) = some (extA mxv z n (n * (r + 1))) := h2
    rw [h3]
    simp (disch := omega) only [lit32, bs, pl_e, gd_okI, nI_leI, nI_ltI, nI_eq, nI_add, pk_mul, pk_sub, nI_m1', nI_clamp, if_pos, if_neg, ↓reduceIte]) (by
    rw [f_X4_greatest_L1]
    simp (disch := omega) only [lit32, bs, pl_e, gd_okI, nI_leI, nI_ltI, nI_eq, nI_add, pk_mul, pk_sub, nI_m1', nI_clamp, if_pos, if_neg, ↓reduceIte]) (by omega)
  have h' : lpN (f_X4_greatest_L1 (nI n) z) FU (z (7 * 0 + 0), nI 0) = some (extA mxv z n (n * n)) := by
    have e : extA mxv z n (n * 0) = z (7 * 0 + 0) := by rw [Nat.mul_zero]; rfl
    rw [← e]
    exact h
  rw [h', bs]
theorem least_n {n : Nat} (h1 : 1 ≤ n) (hn : n ≤ 7) (z : Nat → Int32) : f_X4_least (nI n) z = some (extA mnv z n (n * n)) := by
  unfold f_X4_least
  rw [show (0 : Int32) = nI 0 from rfl, at_n h1 h1 hn, bs]
  have h := lp_cnt (body := f_X4_least_L1 (nI n) z) (fun r => extA mnv z n (n * r)) n (extA mnv z n (n * n)) (fun r hr => by
    rw [f_X4_least_L1]
    have h2 := lp_cnt (body := f_X4_least_L2 (nI r) (nI n) z) (fun q => extA mnv z n (n * r + q)) n (extA mnv z n (n * (r + 1))) (fun q hq => by
      rw [f_X4_least_L2]
      rw [at_n hr hq hn]
      simp (disch := omega) only [lit32, bs, pl_e, gd_okI, nI_leI, nI_ltI, nI_eq, nI_add, pk_mul, pk_sub, nI_m1', nI_clamp, if_pos, if_neg, ↓reduceIte]
      have e : extA mnv z n (n * r + (q + 1)) = mnv (extA mnv z n (n * r + q)) (z (7 * r + q)) := by
        show extA mnv z n (n * r + q + 1) = _
        rw [extA, (divmod_row hq).1, (divmod_row hq).2]
      rw [e]
      rfl) (by
      rw [f_X4_least_L2]
      simp (disch := omega) only [lit32, bs, pl_e, gd_okI, nI_leI, nI_ltI, nI_eq, nI_add, pk_mul, pk_sub, nI_m1', nI_clamp, if_pos, if_neg, ↓reduceIte]
      rw [Nat.mul_add, Nat.mul_one]) (by omega)
    have h3 : lpN (f_X4_least_L2 (nI r) (nI n) z) FU (extA mnv z n (n * r), (0 : Int32)) = some (extA mnv z n (n * (r + 1))) := h2
    rw [h3]
    simp (disch := omega) only [lit32, bs, pl_e, gd_okI, nI_leI, nI_ltI, nI_eq, nI_add, pk_mul, pk_sub, nI_m1', nI_clamp, if_pos, if_neg, ↓reduceIte]) (by
    rw [f_X4_least_L1]
    simp (disch := omega) only [lit32, bs, pl_e, gd_okI, nI_leI, nI_ltI, nI_eq, nI_add, pk_mul, pk_sub, nI_m1', nI_clamp, if_pos, if_neg, ↓reduceIte]) (by omega)
  have h' : lpN (f_X4_least_L1 (nI n) z) FU (z (7 * 0 + 0), nI 0) = some (extA mnv z n (n * n)) := by
    have e : extA mnv z n (n * 0) = z (7 * 0 + 0) := by rw [Nat.mul_zero]; rfl
    rw [← e]
    exact h
  rw [h', bs]
theorem Int32_le_of_not_lt {a b : Int32} (h : ¬ a < b) : b ≤ a := by
  rw [Int32.le_iff_toInt_le]
  rw [Int32.lt_iff_toInt_lt] at h
  omega
theorem Int32_not_lt_of_le {a b : Int32} (h : b ≤ a) : ¬ a < b := by
  rw [Int32.le_iff_toInt_le] at h
  rw [Int32.lt_iff_toInt_lt]
  omega
theorem Int32_eq_of {a b : Int32} (h : a.toInt = b.toInt) : a = b := Int32.toInt_inj.mp h
