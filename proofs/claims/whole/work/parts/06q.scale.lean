/-! MATHEMATICS: which matrices can be scaled -/
def TS (z : Nat → Int32) (n : Nat) : Bool := nn z && allB (fun k => decide (0 < rowSum z n k) && decide (0 < colSum z n k)) n
theorem le0_iff (x : Int32) : x ≤ 0 ↔ ¬ 0 < x := by
  rw [Int32.le_iff_toInt_le, Int32.lt_iff_toInt_lt]
  omega
theorem mcanScale_n {z : Nat → Int32} {n : Nat} (hz49 : z 49 = nI n) (hn : n ≤ 7) : f_X10_canScale z = some (b2i (TS z n)) := by
  unfold f_X10_canScale
  have h1 := nn_loop2 z true
  rw [show b2i true = 1 from rfl, Bool.true_and] at h1
  have h2 : ∀ b, lpN (f_X10_canScale_L2 z) FU (b2i b, (0 : Int32)) = some (b2i (b && allB (fun k => decide (0 < rowSum z n k) && decide (0 < colSum z n k)) n)) := by
    intro b
    refine lp_keep (fun k => decide (0 < rowSum z n k) && decide (0 < colSum z n k)) n b (fun j hj => ?_) (fun j hj => ?_) (fun x => ?_) (by omega)
    · rw [f_X10_canScale_L2, gd_t (by decide), mz49 hz49, if_neg (by rw [nI_leI (by omega) (by omega)]; omega), if_neg (by decide), sumOfLine_n hz49 (by omega) hn, sumOfLine_n hz49 (by omega) hn, if_pos (show (0 : Int32) = 0 from rfl), if_neg (show ¬ (1 : Int32) = 0 by decide), bs, bs]
      by_cases hr : 0 < rowSum z n j
      · rw [if_neg (fun hh => (le0_iff _).mp hh hr), decide_eq_true hr, Bool.true_and]
        by_cases hq : 0 < colSum z n j
        · rw [if_neg (fun hh => (le0_iff _).mp hh hq), decide_eq_true hq, pl_e, nI_1]
          rfl
        · rw [if_pos ((le0_iff _).mpr hq), decide_eq_false hq, pl_e, nI_1]
          rfl
      · rw [if_pos ((le0_iff _).mpr hr), decide_eq_false hr, pl_e, nI_1]
        rfl
    · rw [f_X10_canScale_L2, gd_t (by decide), mz49 hz49, if_neg (by rw [nI_leI (by omega) (by omega)]; omega), if_pos rfl, pl_e, nI_1]
    · rw [f_X10_canScale_L2, gd_t (by decide), mz49 hz49, if_pos (by rw [nI_leI (by omega) (by omega)]; omega)]
  rw [h1, bs, h2, bs, b2i_gd]
  rfl
theorem canScale_n {c z : Nat → Int32} {n : Nat} (h : Mx n c z) : f_X4_canBeScaled (nI n) c = some (b2i (TS z n)) := by
  obtain ⟨h1, hn, hc, hz49, h0, hz⟩ := h
  unfold f_X4_canBeScaled
  have hl := least_neg h1 hn h0
  have hle : ∀ x : Int32, 0 ≤ x ↔ ¬ x < 0 := fun x => by
    rw [Int32.le_iff_toInt_le, Int32.lt_iff_toInt_lt]
    omega
  rw [least_n h1 hn, bs, extA_congr hc hn _ (Nat.le_refl _)]
  unfold TS
  cases hnn : nn z with
  | false =>
    rw [if_neg (fun hh => (hle _).mp hh (hl.mpr hnn)), Bool.false_and]
    rfl
  | true =>
    rw [if_pos ((hle _).mpr (fun hh => by rw [hl.mp hh] at hnn; cases hnn)), Bool.true_and]
    have h3 := lp_all (body := f_X4_canBeScaled_L1 (nI n) c) (fun k => decide (0 < rowSum z n k) && decide (0 < colSum z n k)) n (Sum.inr (0 : Int32)) (Sum.inl ()) (fun k hk hP => by
      rw [Bool.and_eq_true] at hP
      have hr := of_decide_eq_true hP.1
      have hq := of_decide_eq_true hP.2
      rw [f_X4_canBeScaled_L1, if_neg (by rw [nI_leI (by omega) (by omega)]; omega), sumOfRow_n hk hn, sumOfColumn_n hk hn, rowSum_congr hc (by omega) hn, colSum_congr hc (by omega) hn, bs, if_neg (fun hh => (le0_iff _).mp hh hr), bs, if_pos hq, pl_e, nI_1]) (fun k hk hP => by
      rw [f_X4_canBeScaled_L1, if_neg (by rw [nI_leI (by omega) (by omega)]; omega), sumOfRow_n hk hn, sumOfColumn_n hk hn, rowSum_congr hc (by omega) hn, colSum_congr hc (by omega) hn, bs]
      by_cases hr : 0 < rowSum z n k
      · rw [if_neg (fun hh => (le0_iff _).mp hh hr), bs]
        rw [decide_eq_true hr, Bool.true_and] at hP
        rw [if_neg (of_decide_eq_false hP)]
      · rw [if_pos ((le0_iff _).mpr hr)]) (by
      rw [f_X4_canBeScaled_L1, if_pos (by rw [nI_leI (by omega) (by omega)]; omega)]) (by omega)
    change lpN _ FU (0 : Int32) = _ at h3
    rw [h3, bs]
    cases allB (fun k => decide (0 < rowSum z n k) && decide (0 < colSum z n k)) n with
    | false => rfl
    | true => rfl
