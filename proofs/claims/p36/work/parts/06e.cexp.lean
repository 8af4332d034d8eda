/-! MATHEMATICS: what the class's expansions answer -/
theorem lp_cntX {σ α ρ : Type} {body : σ → Option (σ ⊕ ρ)} (R : Nat → α → σ) (P : Nat → α → Prop) (N : Nat) (Q : ρ → Prop) (hs : ∀ j a, j < N → P j a → ∃ a', body (R j a) = some (.inl (R (j + 1) a')) ∧ P (j + 1) a') (he : ∀ a, P N a → ∃ r, body (R N a) = some (.inr r) ∧ Q r) {fuel : Nat} (hf : N < fuel) {a : α} (h0 : P 0 a) : ∃ r, lpN body fuel (R 0 a) = some r ∧ Q r := by
  have key : ∀ d j a fuel, j + d = N → d < fuel → P j a → ∃ r, lpN body fuel (R j a) = some r ∧ Q r := by
    intro d
    induction d with
    | zero =>
      intro j a fuel hj hf hp
      cases fuel with
      | zero => omega
      | succ f =>
        have : j = N := by omega
        subst this
        obtain ⟨r, h1, h2⟩ := he a hp
        exact ⟨r, lp_end h1, h2⟩
    | succ d ih =>
      intro j a fuel hj hf hp
      cases fuel with
      | zero => omega
      | succ f =>
        obtain ⟨a', h1, h2⟩ := hs j a (by omega) hp
        rw [lp_step h1]
        exact ih (j + 1) a' f (by omega) (by omega) h2
  exact key N 0 a fuel (by omega) hf h0
theorem fl_tail {S : Nat → Bool} {n m : Nat} (hnm : n ≤ m) (h : ∀ a, n ≤ a → a < m → S a = false) : fl S m = fl S n := by
  have key : ∀ d, n + d ≤ m → fl S (n + d) = fl S n := by
    intro d
    induction d with
    | zero => intro _; rfl
    | succ d ih =>
      intro hd
      rw [show n + (d + 1) = (n + d) + 1 by omega, fl_succ, ih (by omega), h (n + d) (by omega) (by omega)]
      simp
  have := key (m - n) (by omega)
  rw [show n + (m - n) = m by omega] at this
  exact this
theorem expand_n {n R C : Nat} (hn : n ≤ 7) (hR : R < 2 ^ n) (hC : C < 2 ^ n) (t : Nat → Int64) (c : Nat → Int32) : ∃ t', f_X9_expand t (nI n) c (nI R) (nI C) = some (Bk (wt false) (cl c) (fl (tb R) 7) (tb C), t') := by
  have hR7 : R < 128 := lt128 hR hn
  have hC7 : C < 128 := lt128 hC hn
  unfold f_X9_expand
  obtain ⟨t1, h1, h2⟩ := begin_n t
  rw [h1, bs]
  obtain ⟨t2, h3, h4⟩ := lp_cntX (body := f_X9_expand_L1 (nI R) (nI n) c) (fun j t => (nI j, t)) (fun j t => Dp n t (Bk (wt false) (cl c) (fl (tb R) j))) n (fun t => Dp n t (Bk (wt false) (cl c) (fl (tb R) n))) (fun j t hj hp => by
    rw [f_X9_expand_L1, f_X4_size, bs, if_neg (by rw [nI_leI (by omega) (by omega)]; omega), sh1 j (by omega), bitAnd_n R hR7 j (by omega)]
    have hq : 0 < 2 ^ j := Nat.pow_pos (by omega)
    have hq2 : 2 ^ j ≤ 2 ^ 7 := Nat.pow_le_pow_right (by omega) (by omega)
    by_cases hb : R.testBit j = true
    · rw [if_pos hb, if_neg (by rw [show (0 : Int32) = nI 0 from rfl, nI_eq (by omega) (by omega)]; omega)]
      obtain ⟨t', e1, e2⟩ := takeRow_Dp hn hj false c hp
      change f_X0_takeRow t (nI n) c (nI j) (0 : Int32) = some t' at e1
      refine ⟨t', ?_, ?_⟩
      · rw [e1, bs, pl_e, show nI j + (1 : Int32) = nI (j + 1) from nI_add _ _]
      · rw [fl_succ, if_pos (show tb R j = true from hb)]
        exact e2
    · rw [if_neg hb, if_pos (by rfl), pl_e, show nI j + (1 : Int32) = nI (j + 1) from nI_add _ _]
      refine ⟨t, rfl, ?_⟩
      rw [fl_succ, if_neg (show ¬ tb R j = true from hb), List.append_nil]
      exact hp) (fun t hp => by
    rw [f_X9_expand_L1, f_X4_size, bs, if_pos (by rw [nI_leI (by omega) (by omega)]; omega)]
    exact ⟨t, rfl, hp⟩) (FU_lt (by omega)) (a := t1) (begin_Dp _ _ h2)
  change lpN _ FU ((0 : Int32), t1) = _ at h3
  rw [h3, bs, of_n hC7, bs, h4 C hC7, if_pos hC]
  refine ⟨t2, ?_⟩
  rw [fl_tail (S := tb R) (n := n) (m := 7) hn (fun a h1 h2 => tb_lt n hn R hR a h2 h1)]
theorem determinant_n {n : Nat} (hn : n ≤ 7) (t : Nat → Int64) (c : Nat → Int32) : ∃ t', f_X9_determinant (nI n) c t = some (Bk (wt true) (cl c) (List.range n) (tb (2 ^ n - 1)), t') := by
  have hp2 : 0 < 2 ^ n := Nat.pow_pos (by omega)
  have h27 : 2 ^ n ≤ 128 := two_pow_le hn
  unfold f_X9_determinant
  obtain ⟨t1, h1, h2⟩ := begin_n t
  rw [h1, bs]
  obtain ⟨t2, h3, h4⟩ := lp_cntX (body := f_X9_determinant_L1 (nI n) c) (fun j t => (nI j, t)) (fun j t => Dp n t (Bk (wt true) (cl c) (List.range j))) n (fun t => Dp n t (Bk (wt true) (cl c) (List.range n))) (fun j t hj hp => by
    rw [f_X9_determinant_L1, f_X4_size, bs, if_neg (by rw [nI_leI (by omega) (by omega)]; omega)]
    obtain ⟨t', e1, e2⟩ := takeRow_Dp hn hj true c hp
    change f_X0_takeRow t (nI n) c (nI j) (1 : Int32) = some t' at e1
    refine ⟨t', ?_, ?_⟩
    · rw [e1, bs, pl_e, show nI j + (1 : Int32) = nI (j + 1) from nI_add _ _]
    · rw [List.range_succ]
      exact e2) (fun t hp => by
    rw [f_X9_determinant_L1, f_X4_size, bs, if_pos (by rw [nI_leI (by omega) (by omega)]; omega)]
    exact ⟨t, rfl, hp⟩) (FU_lt (by omega)) (a := t1) (begin_Dp _ _ h2)
  change lpN _ FU ((0 : Int32), t1) = _ at h3
  rw [h3, bs, allLines_n n hn, bs, of_n (by omega), bs, h4 _ (by omega), if_pos (by omega)]
  exact ⟨t2, rfl⟩
theorem expandWithout_n {n r q : Nat} (hn : n ≤ 7) (hr : r < n) (hq : q < n) (t : Nat → Int64) (c : Nat → Int32) : ∃ t', f_X9_expandWithout t (nI n) c (nI r) (nI q) = some (Bk (wt false) (cl c) (fl (tb (2 ^ n - 1 - 2 ^ r)) 7) (tb (2 ^ n - 1 - 2 ^ q)), t') := by
  have hp2 : 0 < 2 ^ n := Nat.pow_pos (by omega)
  have h27 : 2 ^ n ≤ 128 := two_pow_le hn
  have hbit : ∀ n, n ≤ 7 → ∀ a, a < n → (2 ^ n - 1).testBit a = true := by decide
  unfold f_X9_expandWithout
  rw [allLines_n n hn, bs, bs, rest_n _ (by omega) r (by omega), rest_n _ (by omega) q (by omega), if_pos (hbit n hn r hr), if_pos (hbit n hn q hq)]
  obtain ⟨t', h⟩ := expand_n (n := n) (R := 2 ^ n - 1 - 2 ^ r) (C := 2 ^ n - 1 - 2 ^ q) hn (Nat.lt_of_le_of_lt (Nat.sub_le _ _) (by omega)) (Nat.lt_of_le_of_lt (Nat.sub_le _ _) (by omega)) t c
  rw [h, bs]
  exact ⟨t', rfl⟩
/-! rows taken or not -/
theorem sL_app (f : Nat → Int64) (a b : Nat) : sL f (a + b) = sL f a + sL (fun k => f (a + k)) b := by
  induction b with
  | zero => show _ = _ + 0; grind
  | succ b ih => rw [← Nat.add_assoc, sL, ih, sL]; grind
def Bs (cell : Nat → Nat → Int64) (j : Nat) (S : Nat → Bool) : Int64 := sL (fun R => Bk (wt false) cell (fl (tb R) 7) S) (2 ^ j)
theorem fl_up : ∀ j, j < 7 → ∀ R, R < 2 ^ j → fl (tb (2 ^ j + R)) 7 = fl (tb R) 7 ++ [j] := by decide +kernel
theorem Bs_up (cell : Nat → Nat → Int64) {j : Nat} (hj : j < 7) (S : Nat → Bool) : Bs cell (j + 1) S = Bs cell j S + sL (fun a => if S a then cell j a * Bs cell j (dl S a) else 0) 7 := by
  unfold Bs
  rw [show 2 ^ (j + 1) = 2 ^ j + 2 ^ j by rw [Nat.pow_succ]; omega, sL_app]
  congr 1
  have e1 : sL (fun k => Bk (wt false) cell (fl (tb (2 ^ j + k)) 7) S) (2 ^ j) = sL (fun k => sL (fun a => if S a then cell j a * Bk (wt false) cell (fl (tb k) 7) (dl S a) else 0) 7) (2 ^ j) := by
    refine sL_congr (fun k hk => ?_)
    rw [fl_up j hj k hk, Bk_last]
    refine sL_congr (fun a ha => ?_)
    by_cases hS : S a = true
    · rw [if_pos hS, if_pos hS]
      show 1 * cell j a * _ = _
      grind
    · rw [if_neg hS, if_neg hS]
  rw [e1, sL_swap]
  refine sL_congr (fun a ha => ?_)
  by_cases hS : S a = true
  · rw [if_pos hS, ← sL_mul]
    refine sL_congr (fun k hk => ?_)
    rw [if_pos hS]
  · rw [if_neg hS]
    have : (fun k => if S a = true then cell j a * Bk (wt false) cell (fl (tb k) 7) (dl S a) else 0) = fun _ => 0 := by
      funext k
      rw [if_neg hS]
    rw [this, sL_zero]
theorem takeRowOrNot_n {n r : Nat} (hn : n ≤ 7) (hr : r < n) (t : Nat → Int64) (c : Nat → Int32) :
    f_X0_takeRowOrNot t (nI n) c (nI r) = some (fun s => if s < 2 ^ n then t s + sL (fun a => if tb s a then wt' false (tb s) a * cl c r a * t (s - 2 ^ a) else 0) 7 else t s) := by
  have hp : 0 < 2 ^ n := Nat.pow_pos (by omega)
  have h2 : 2 ^ n ≤ 128 := two_pow_le hn
  unfold f_X0_takeRowOrNot
  rw [allLines_n n hn, bs]
  have h := lp_run (body := f_X0_takeRowOrNot_L1 (nI r) (nI n) c) (fun k => (if k < 2 ^ n then nI (2 ^ n - 1 - k) else -1, fun s => if s < 2 ^ n ∧ 2 ^ n ≤ s + k then t s + sL (fun a => if tb s a then wt' false (tb s) a * cl c r a * t (s - 2 ^ a) else 0) 7 else t s)) (2 ^ n) (fun s => if s < 2 ^ n then t s + sL (fun a => if tb s a then wt' false (tb s) a * cl c r a * t (s - 2 ^ a) else 0) 7 else t s) (fun k hk => by
    have hsw := sumWithRow_n (s := 2 ^ n - 1 - k) hn hr (by omega) false (fun s => if s < 2 ^ n ∧ 2 ^ n ≤ s + k then t s + sL (fun a => if tb s a then wt' false (tb s) a * cl c r a * t (s - 2 ^ a) else 0) 7 else t s) c
    rw [show b2i false = 0 from rfl] at hsw
    rw [if_pos hk, f_X0_takeRowOrNot_L1, if_neg (by
      intro hc
      rw [show (0 : Int32) = nI 0 from rfl, nI_ltI (by omega) (by omega)] at hc
      omega), of_n (by omega), bs, hsw, bs, putL_n (by omega), bs, pl_e]
    have e1 : nI (2 ^ n - 1 - k) + (-1 : Int32) = if k + 1 < 2 ^ n then nI (2 ^ n - 1 - (k + 1)) else -1 := by
      by_cases e : k + 1 < 2 ^ n
      · rw [if_pos e, nI_m1 (by omega)]
        congr 1
      · rw [if_neg e, show 2 ^ n - 1 - k = 0 by omega]
        rfl
    rw [e1]
    congr 3
    funext s
    unfold vp_updL
    by_cases e : s = 2 ^ n - 1 - k
    · rw [if_pos e, if_neg (by omega), if_pos (by omega), ← e]
      congr 1
      refine sL_congr (fun a ha => ?_)
      by_cases ht : tb s a = true
      · rw [if_pos ht, if_pos ht]
        have hq := (tb_sub0 s (by omega) a ha ht).1
        have hq2 : 0 < 2 ^ a := Nat.pow_pos (by omega)
        rw [if_neg (by omega)]
      · rw [if_neg ht, if_neg ht]
    · rw [if_neg e]
      dsimp only
      by_cases e2 : s < 2 ^ n ∧ 2 ^ n ≤ s + k
      · rw [if_pos e2, if_pos (by omega)]
      · rw [if_neg e2, if_neg (by omega)]) (by
    rw [if_neg (by omega), f_X0_takeRowOrNot_L1, if_pos (by decide)]
    congr 2
    funext s
    by_cases e : s < 2 ^ n
    · rw [if_pos e, if_pos (by omega)]
    · rw [if_neg e, if_neg (by omega)]) (FU_lt (by omega))
  have e0 : (fun s => if s < 2 ^ n ∧ 2 ^ n ≤ s + 0 then t s + sL (fun a => if tb s a then wt' false (tb s) a * cl c r a * t (s - 2 ^ a) else 0) 7 else t s) = t := by
    funext s
    rw [if_neg (by omega)]
  simp only [e0, if_pos hp, Nat.sub_zero] at h
  rw [h]
  rfl
theorem takeRowOrNot_Dp {n r : Nat} (hn : n ≤ 7) (hr : r < n) {t : Nat → Int64} (c : Nat → Int32) (h : Dp n t (Bs (cl c) r)) : ∃ t', f_X0_takeRowOrNot t (nI n) c (nI r) = some t' ∧ Dp n t' (Bs (cl c) (r + 1)) := by
  refine ⟨_, takeRowOrNot_n hn hr t c, fun s hs => ?_⟩
  by_cases e : s < 2 ^ n
  · rw [if_pos e, if_pos e, Bs_up (cl c) (by omega), h s hs, if_pos e]
    congr 1
    refine sL_congr (fun a ha => ?_)
    by_cases ht : tb s a = true
    · have hsub := Nat.sub_le s (2 ^ a)
      rw [if_pos ht, if_pos ht, h (s - 2 ^ a) (Nat.lt_of_le_of_lt hsub hs), if_pos (Nat.lt_of_le_of_lt hsub e), tb_sub hs ha ht]
      show 1 * cl c r a * _ = _
      grind
    · rw [if_neg ht, if_neg ht]
  · rw [if_neg e, if_neg e, h s hs, if_neg e]
theorem sumOfSize_n {n k : Nat} (hn : n ≤ 7) (hk : k ≤ 7) {t : Nat → Int64} {G : (Nat → Bool) → Int64} (h : Dp n t G) : f_X0_sumOfSize t (nI k) = some (sL (fun s => if pc s = k then G (tb s) else 0) (2 ^ n)) := by
  unfold f_X0_sumOfSize
  have h1 := lp_cnt (body := f_X0_sumOfSize_L1 (nI k) t) (fun j => sL (fun s => if pc s = k then t s else 0) j) 128 (sL (fun s => if pc s = k then t s else 0) 128) (fun j hj => by
    rw [f_X0_sumOfSize_L1, bitCount_n j hj, bs, if_neg (by rw [show (128 : Int32) = nI 128 from rfl, nI_leI (by omega) (by omega)]; omega)]
    have hpc := pc_le j
    by_cases e : pc j = k
    · rw [if_pos (by rw [e]), gd_okI (by omega) (by omega), pl_e, pl_e, nI_clamp (by omega), sL, if_pos e, show nI j + (1 : Int32) = nI (j + 1) from nI_add _ _]
    · rw [if_neg (by rw [nI_eq (by omega) (by omega)]; exact e), pl_e, sL, if_neg e, show nI j + (1 : Int32) = nI (j + 1) from nI_add _ _]
      congr 3
      grind) (by
    rw [f_X0_sumOfSize_L1, if_pos (by decide)]) (by omega)
  change lpN _ FU ((0 : Int64), (0 : Int32)) = _ at h1
  rw [h1, bs]
  congr 1
  have h2 : 2 ^ n ≤ 128 := two_pow_le hn
  rw [show 128 = 2 ^ n + (128 - 2 ^ n) by omega, sL_app]
  have e1 : sL (fun j => (fun s => if pc s = k then t s else 0) (2 ^ n + j)) (128 - 2 ^ n) = sL (fun _ => 0) (128 - 2 ^ n) := by
    refine sL_congr (fun j hj => ?_)
    show (if pc (2 ^ n + j) = k then t (2 ^ n + j) else 0) = 0
    rw [h (2 ^ n + j) (by omega), if_neg (show ¬ 2 ^ n + j < 2 ^ n by omega)]
    split <;> rfl
  rw [e1, sL_zero]
  have e2 : sL (fun s => if pc s = k then t s else 0) (2 ^ n) = sL (fun s => if pc s = k then G (tb s) else 0) (2 ^ n) := by
    refine sL_congr (fun s hs => ?_)
    rw [h s (by omega), if_pos hs]
  rw [e2]
  grind
theorem sumOfExpansions_n {n k : Nat} (hn : n ≤ 7) (hk : k ≤ 7) (t : Nat → Int64) (c : Nat → Int32) : ∃ t', f_X9_sumOfExpansions t (nI n) c (nI k) = some (sL (fun s => if pc s = k then Bs (cl c) n (tb s) else 0) (2 ^ n), t') := by
  unfold f_X9_sumOfExpansions
  obtain ⟨t1, h1, h2⟩ := begin_n t
  rw [h1, bs]
  have hB0 : Bs (cl c) 0 = Bk (wt false) (cl c) [] := by
    funext S
    show 0 + Bk (wt false) (cl c) (fl (tb 0) 7) S = _
    rw [show fl (tb 0) 7 = [] by decide]
    grind
  obtain ⟨t2, h3, h4⟩ := lp_cntX (body := f_X9_sumOfExpansions_L1 (nI n) c) (fun j t => (nI j, t)) (fun j t => Dp n t (Bs (cl c) j)) n (fun t => Dp n t (Bs (cl c) n)) (fun j t hj hp => by
    rw [f_X9_sumOfExpansions_L1, f_X4_size, bs, if_neg (by rw [nI_leI (by omega) (by omega)]; omega)]
    obtain ⟨t', e1, e2⟩ := takeRowOrNot_Dp hn hj c hp
    refine ⟨t', ?_, e2⟩
    rw [e1, bs, pl_e, show nI j + (1 : Int32) = nI (j + 1) from nI_add _ _]) (fun t hp => by
    rw [f_X9_sumOfExpansions_L1, f_X4_size, bs, if_pos (by rw [nI_leI (by omega) (by omega)]; omega)]
    exact ⟨t, rfl, hp⟩) (FU_lt (by omega)) (a := t1) (by rw [hB0]; exact begin_Dp _ _ h2)
  change lpN _ FU ((0 : Int32), t1) = _ at h3
  rw [h3, bs, sumOfSize_n hn hk h4, bs]
  exact ⟨t2, rfl⟩
