/-! MATHEMATICS: the class's sums of column sets -/
def tb (s : Nat) : Nat → Bool := fun a => s.testBit a
theorem tb_ge {s a : Nat} (hs : s < 128) (ha : 7 ≤ a) : tb s a = false := by
  unfold tb
  exact Nat.testBit_lt_two_pow (Nat.lt_of_lt_of_le hs (Nat.pow_le_pow_right (n := 2) (i := 7) (by omega) ha))
theorem rest_n : ∀ s, s < 128 → ∀ a, a < 7 → (nI s &&& (((1 : Int32) <<< (nI a &&& 31)) ^^^ (-1 : Int32))) = nI (if s.testBit a then s - 2 ^ a else s) := by decide +kernel
theorem tb_sub0 : ∀ s, s < 128 → ∀ a, a < 7 → s.testBit a = true → (2 ^ a ≤ s) ∧ ∀ x, x < 7 → (s - 2 ^ a).testBit x = (s.testBit x && !decide (x = a)) := by decide +kernel
theorem tb_sub {s a : Nat} (hs : s < 128) (ha : a < 7) (h : s.testBit a = true) : tb (s - 2 ^ a) = dl (tb s) a := by
  funext x
  by_cases hx : x < 7
  · exact (tb_sub0 s hs a ha h).2 x hx
  · rw [tb_ge (Nat.lt_of_le_of_lt (Nat.sub_le _ _) hs) (by omega)]
    unfold dl
    rw [tb_ge hs (by omega)]
    rfl
theorem tb_lt : ∀ n, n ≤ 7 → ∀ s, s < 2 ^ n → ∀ a, a < 7 → n ≤ a → s.testBit a = false := by decide +kernel
theorem tb_zero : ∀ s, s < 128 → (cntB (fun a => s.testBit a) 7 = 0 ↔ s = 0) := by decide +kernel
def gtc (S : Nat → Bool) (a : Nat) : Nat := cntB (fun x => S x && decide (a < x)) 7
def ltc (S : Nat → Bool) (a : Nat) : Nat := cntB (fun x => S x && decide (x < a)) 7
theorem restbc : ∀ s, s < 128 → ∀ a, a < 7 → s.testBit a = true → ((f_J6_bitCount_0f7a4 (nI (s - 2 ^ a) >>> (nI a &&& 31))) = some (nI (gtc (fun x => s.testBit x) a))) := by decide +kernel
def sg (k : Nat) : Int64 := if k % 2 = 0 then 1 else -1
theorem sg_add (i j : Nat) : sg (i + j) = sg i * sg j := by
  unfold sg
  by_cases h1 : i % 2 = 0
  · rw [if_pos h1]
    by_cases h2 : j % 2 = 0
    · rw [if_pos h2, if_pos (by omega)]; rfl
    · rw [if_neg h2, if_neg (by omega)]; rfl
  · rw [if_neg h1]
    by_cases h2 : j % 2 = 0
    · rw [if_pos h2, if_neg (by omega)]; rfl
    · rw [if_neg h2, if_pos (by omega)]; rfl
theorem cntB_dl {S R : Nat → Bool} {a : Nat} (h : S a = true) (n : Nat) : cntB (fun x => dl S a x && R x) n + (if a < n ∧ R a = true then 1 else 0) = cntB (fun x => S x && R x) n := by
  induction n with
  | zero => rw [if_neg (by omega)]; rfl
  | succ n ih =>
    rw [cntB, cntB, ← ih]
    by_cases e : n = a
    · subst e
      by_cases hr : R n = true
      · simp [dl_self, h, hr]
      · simp [dl_self, h, hr]
    · rw [dl_at e]
      have : (a < n + 1 ∧ R a = true) ↔ (a < n ∧ R a = true) := ⟨fun hc => ⟨by omega, hc.2⟩, fun hc => ⟨by omega, hc.2⟩⟩
      simp only [this]
      omega
def wt (b : Bool) (S : Nat → Bool) (a : Nat) : Int64 := if b then sg (ltc S a) else 1
def wt' (b : Bool) (S : Nat → Bool) (a : Nat) : Int64 := if b then sg (gtc S a) else 1
theorem wt_one (b : Bool) : ∀ S a, a < 7 → S a = true → cntB (dl S a) 7 = 0 → wt b S a = wt' b S a := by
  intro S a ha hS hc
  cases b with
  | false => rfl
  | true =>
    show sg (ltc S a) = sg (gtc S a)
    have hz : ∀ x, x < 7 → dl S a x = false := by
      intro x hx
      cases h : dl S a x with
      | false => rfl
      | true =>
        have : 0 < (fl (dl S a) 7).length := List.length_pos_of_mem (fl_mem.mpr ⟨hx, h⟩)
        rw [fl_len] at this
        omega
    have e1 : ltc S a = 0 := cntB_false (fun x hx => by
      by_cases e : x = a
      · subst e; simp
      · have := hz x hx
        rw [dl_at e] at this
        rw [this]
        rfl)
    have e2 : gtc S a = 0 := cntB_false (fun x hx => by
      by_cases e : x = a
      · subst e; simp
      · have := hz x hx
        rw [dl_at e] at this
        rw [this]
        rfl)
    rw [e1, e2]
theorem wt_two (b : Bool) : ∀ S a c, a < 7 → c < 7 → a ≠ c → S a = true → S c = true → wt b S a * wt' b (dl S a) c = wt' b S c * wt b (dl S c) a := by
  intro S a c ha hc hac hSa hSc
  cases b with
  | false => rfl
  | true =>
    show sg (ltc S a) * sg (gtc (dl S a) c) = sg (gtc S c) * sg (ltc (dl S c) a)
    have e1 := cntB_dl (R := fun x => decide (c < x)) hSa 7
    have e2 := cntB_dl (R := fun x => decide (x < a)) hSc 7
    change gtc (dl S a) c + _ = gtc S c at e1
    change ltc (dl S c) a + _ = ltc S a at e2
    by_cases h : c < a
    · rw [if_pos ⟨ha, by simpa using h⟩] at e1
      rw [if_pos ⟨hc, by simpa using h⟩] at e2
      rw [← e1, ← e2, sg_add, sg_add]
      grind
    · rw [if_neg (fun hh => h (by simpa using hh.2)), Nat.add_zero] at e1 e2
      rw [← e1, ← e2]
      grind
theorem Bk_last (b : Bool) (cell : Nat → Nat → Int64) (r : Nat) (rs : List Nat) (S : Nat → Bool) : Bk (wt b) cell (rs ++ [r]) S = sL (fun a => if S a then wt' b S a * cell r a * Bk (wt b) cell rs (dl S a) else 0) 7 := Bk_snoc (wt b) (wt' b) cell (wt_one b) (wt_two b) r rs S
theorem of_n {k : Nat} (h : k < 128) (t : Nat → Int64) : f_X0_of t (nI k) = some (t k) := by
  unfold f_X0_of
  simp (disch := omega) only [lit32, bs, pl_e, gd_okI, nI_leI, nI_ltI, nI_eq, nI_add, pk_mul, pk_sub, nI_m1', nI_clamp, if_pos, if_neg, ↓reduceIte]
theorem putL_n {k : Nat} (h : k < 128) (t : Nat → Int64) (v : Int64) : f_X0_put t (nI k) v = some (vp_updL t k v) := by
  unfold f_X0_put
  simp (disch := omega) only [lit32, bs, pl_e, gd_okI, nI_leI, nI_ltI, nI_eq, nI_add, pk_mul, pk_sub, nI_m1', nI_clamp, if_pos, if_neg, ↓reduceIte]
theorem and1 : ∀ k, k < 8 → (nI k &&& (1 : Int32)) = nI (k % 2) := by decide
def cl (c : Nat → Int32) (r a : Nat) : Int64 := (c (7 * r + a)).toInt64
theorem gtc_lt (S : Nat → Bool) (a : Nat) : gtc S a < 8 := by
  have : ∀ (P : Nat → Bool) n, cntB P n ≤ n := by
    intro P n
    induction n with
    | zero => exact Nat.le_refl _
    | succ n ih =>
      rw [cntB]
      by_cases h : P n = true
      · rw [if_pos h]; omega
      · rw [if_neg h]; omega
  have := this (fun x => S x && decide (a < x)) 7
  unfold gtc
  omega
theorem sumWithRow_n {n r s : Nat} (hn : n ≤ 7) (hr : r < n) (hs : s < 2 ^ n) (b : Bool) (t : Nat → Int64) (c : Nat → Int32) :
    f_X0_sumWithRow t (nI n) c (nI r) (nI s) (b2i b) = some (sL (fun a => if tb s a then wt' b (tb s) a * cl c r a * t (s - 2 ^ a) else 0) 7) := by
  have hs7 : s < 128 := lt128 hs hn
  unfold f_X0_sumWithRow
  have h := lp_cnt (body := f_X0_sumWithRow_L1 (nI r) (nI s) (b2i b) t (nI n) c) (fun j => sL (fun a => if tb s a then wt' b (tb s) a * cl c r a * t (s - 2 ^ a) else 0) j) n (sL (fun a => if tb s a then wt' b (tb s) a * cl c r a * t (s - 2 ^ a) else 0) n) (fun j hj => by
    rw [f_X0_sumWithRow_L1, f_X4_size, bs, rest_n s hs7 j (by omega)]
    by_cases ht : s.testBit j = true
    · have h2 := (tb_sub0 s hs7 j (by omega) ht).1
      have hp : 0 < 2 ^ j := Nat.pow_pos (by omega)
      rw [if_pos ht]
      rw [if_neg (by rw [nI_leI (by omega) (by omega)]; omega), pl_e, if_neg (by rw [nI_eq (by omega) (by omega)]; omega), of_n (by omega), bs, at_n hr hj hn, bs, pl_e, restbc s hs7 j (by omega) ht, bs, and1 _ (gtc_lt _ _)]
      rw [sL, if_pos (show tb s j = true from ht)]
      cases b with
      | false =>
        rw [show b2i false = 0 from rfl]
        have e : wt' false (tb s) j = 1 := rfl
        rw [e]
        by_cases hg : nI (gtc (fun x => s.testBit x) j % 2) = 0
        · rw [if_pos hg, bs, if_pos rfl, pl_e, pl_e, show nI j + (1 : Int32) = nI (j + 1) from nI_add _ _]
          congr 3
          show _ = _ + 1 * (c (7 * r + j)).toInt64 * t (s - 2 ^ j)
          grind
        · rw [if_neg hg, bs, if_pos rfl, pl_e, pl_e, show nI j + (1 : Int32) = nI (j + 1) from nI_add _ _]
          congr 3
          show _ = _ + 1 * (c (7 * r + j)).toInt64 * t (s - 2 ^ j)
          grind
      | true =>
        rw [show b2i true = 1 from rfl]
        have e : wt' true (tb s) j = sg (gtc (fun x => s.testBit x) j) := rfl
        rw [e]
        by_cases hg : gtc (fun x => s.testBit x) j % 2 = 0
        · rw [hg, if_pos (show nI 0 = 0 from rfl), bs, if_neg (by decide), if_pos rfl, pl_e, pl_e, show nI j + (1 : Int32) = nI (j + 1) from nI_add _ _]
          congr 3
          unfold sg
          rw [if_pos hg]
          show _ = _ + 1 * (c (7 * r + j)).toInt64 * t (s - 2 ^ j)
          grind
        · have hg1 : gtc (fun x => s.testBit x) j % 2 = 1 := by omega
          rw [hg1, if_neg (show ¬ nI 1 = 0 by decide), bs, if_neg (by decide), if_neg (by decide), pl_e, pl_e, show nI j + (1 : Int32) = nI (j + 1) from nI_add _ _]
          congr 3
          unfold sg
          rw [if_neg hg]
          show _ = _ + -1 * (c (7 * r + j)).toInt64 * t (s - 2 ^ j)
          grind
    · rw [if_neg ht]
      rw [if_neg (by rw [nI_leI (by omega) (by omega)]; omega), pl_e, if_pos rfl, pl_e, show nI j + (1 : Int32) = nI (j + 1) from nI_add _ _]
      rw [sL, if_neg (show ¬ tb s j = true from ht)]
      congr 3
      grind) (by
    rw [f_X0_sumWithRow_L1, f_X4_size, bs, if_pos (by rw [nI_leI (by omega) (by omega)]; omega)]) (by omega)
  have ht : sL (fun a => if tb s a then wt' b (tb s) a * cl c r a * t (s - 2 ^ a) else 0) n = sL (fun a => if tb s a then wt' b (tb s) a * cl c r a * t (s - 2 ^ a) else 0) 7 := by
    have key : ∀ d, n + d ≤ 7 → sL (fun a => if tb s a then wt' b (tb s) a * cl c r a * t (s - 2 ^ a) else 0) (n + d) = sL (fun a => if tb s a then wt' b (tb s) a * cl c r a * t (s - 2 ^ a) else 0) n := by
      intro d
      induction d with
      | zero => intro _; rfl
      | succ d ih =>
        intro hd
        rw [show n + (d + 1) = (n + d) + 1 by omega, sL, ih (by omega), if_neg (by rw [show tb s (n + d) = false from tb_lt n hn s hs (n + d) (by omega) (by omega)]; decide)]
        grind
    have := key (7 - n) (by omega)
    rw [show n + (7 - n) = 7 by omega] at this
    exact this.symm
  rw [← ht]
  change lpN _ FU ((0 : Int64), (0 : Int32)) = _ at h
  rw [h]
  rfl
/-- the sums of the sets of n columns -/
def Dp (n : Nat) (t : Nat → Int64) (G : (Nat → Bool) → Int64) : Prop := ∀ s, s < 128 → t s = if s < 2 ^ n then G (tb s) else 0
theorem begin_n (t : Nat → Int64) : ∃ t', f_X0_begin t = some t' ∧ ∀ s, s < 128 → t' s = if s = 0 then 1 else 0 := by
  unfold f_X0_begin
  have h := lp_run (body := f_X0_begin_L1) (fun j => (nI j, fun k => if k < j then 0 else t k)) 128 (fun k => if k < 128 then 0 else t k) (fun j hj => by
    rw [f_X0_begin_L1]
    simp (disch := omega) only [lit32, bs, pl_e, gd_okI, nI_leI, nI_ltI, nI_eq, nI_add, pk_mul, pk_sub, nI_m1', nI_clamp, if_pos, if_neg, ↓reduceIte]
    congr 4
    funext k
    unfold vp_updL
    by_cases e : k = j
    · subst e; simp
    · rw [if_neg e]
      by_cases e2 : k < j
      · dsimp only
        rw [if_pos e2, if_pos (by omega)]
      · dsimp only
        rw [if_neg e2, if_neg (by omega)]) (by
    rw [f_X0_begin_L1]
    simp (disch := omega) only [lit32, bs, pl_e, gd_okI, nI_leI, nI_ltI, nI_eq, nI_add, pk_mul, pk_sub, nI_m1', nI_clamp, if_pos, if_neg, ↓reduceIte]) (FU_lt (by omega))
  simp only [Nat.not_lt_zero, if_false] at h
  change lpN _ FU ((0 : Int32), t) = _ at h
  rw [h, bs, gd_t (by decide), pl_e]
  refine ⟨_, rfl, fun s hs => ?_⟩
  unfold vp_updL
  rw [show (0 : Int32).toNatClampNeg = 0 from rfl]
  by_cases e : s = 0
  · rw [if_pos e, if_pos e]
  · rw [if_neg e, if_neg e]
    exact if_pos hs
theorem begin_Dp {n : Nat} (w : (Nat → Bool) → Nat → Int64) (cell : Nat → Nat → Int64) {t' : Nat → Int64} (h : ∀ s, s < 128 → t' s = if s = 0 then 1 else 0) : Dp n t' (Bk w cell []) := by
  intro s hs
  have hp : 0 < 2 ^ n := Nat.pow_pos (by omega)
  rw [h s hs]
  have hz := tb_zero s hs
  by_cases e : s = 0
  · rw [if_pos e, if_pos (by omega), Bk]
    rw [show cntB (tb s) 7 = 0 from hz.mpr e]
    rfl
  · rw [if_neg e]
    by_cases e2 : s < 2 ^ n
    · rw [if_pos e2, Bk, if_neg (show ¬ cntB (tb s) 7 = 0 from fun hc => e (hz.mp hc))]
    · rw [if_neg e2]
theorem takeRow_n {n r : Nat} (hn : n ≤ 7) (hr : r < n) (b : Bool) (t : Nat → Int64) (c : Nat → Int32) :
    f_X0_takeRow t (nI n) c (nI r) (b2i b) = some (fun s => if s < 2 ^ n then sL (fun a => if tb s a then wt' b (tb s) a * cl c r a * t (s - 2 ^ a) else 0) 7 else t s) := by
  have hp : 0 < 2 ^ n := Nat.pow_pos (by omega)
  have h2 : 2 ^ n ≤ 128 := two_pow_le hn
  unfold f_X0_takeRow
  rw [allLines_n n hn, bs]
  have h := lp_run (body := f_X0_takeRow_L1 (nI r) (b2i b) (nI n) c) (fun k => (if k < 2 ^ n then nI (2 ^ n - 1 - k) else -1, fun s => if s < 2 ^ n ∧ 2 ^ n ≤ s + k then sL (fun a => if tb s a then wt' b (tb s) a * cl c r a * t (s - 2 ^ a) else 0) 7 else t s)) (2 ^ n) (fun s => if s < 2 ^ n then sL (fun a => if tb s a then wt' b (tb s) a * cl c r a * t (s - 2 ^ a) else 0) 7 else t s) (fun k hk => by
    rw [if_pos hk, f_X0_takeRow_L1, if_neg (by
      intro hc
      rw [show (0 : Int32) = nI 0 from rfl, nI_ltI (by omega) (by omega)] at hc
      omega), sumWithRow_n hn hr (by omega) b, bs, putL_n (by omega), bs, pl_e]
    have e1 : nI (2 ^ n - 1 - k) + (-1 : Int32) = if k + 1 < 2 ^ n then nI (2 ^ n - 1 - (k + 1)) else -1 := by
      by_cases e : k + 1 < 2 ^ n
      · rw [if_pos e, nI_m1 (by omega)]
        congr 1
      · rw [if_neg e, show 2 ^ n - 1 - k = 0 by omega]
        rfl
    rw [e1]
    congr 3
    funext s
    unfold vp_updL
    by_cases e : s = 2 ^ n - 1 - k
    · rw [if_pos e, if_pos (by omega), ← e]
      refine sL_congr (fun a ha => ?_)
      by_cases ht : tb s a = true
      · rw [if_pos ht, if_pos ht]
        have hq := (tb_sub0 s (by omega) a ha ht).1
        have hq2 : 0 < 2 ^ a := Nat.pow_pos (by omega)
        rw [if_neg (by omega)]
      · rw [if_neg ht, if_neg ht]
    · rw [if_neg e]
      dsimp only
      by_cases e2 : s < 2 ^ n ∧ 2 ^ n ≤ s + k
      · rw [if_pos e2, if_pos (by omega)]
      · rw [if_neg e2, if_neg (by omega)]) (by
    rw [if_neg (by omega), f_X0_takeRow_L1, if_pos (by decide)]
    congr 2
    funext s
    by_cases e : s < 2 ^ n
    · rw [if_pos e, if_pos (by omega)]
    · rw [if_neg e, if_neg (by omega)]) (FU_lt (by omega))
  have e0 : (fun s => if s < 2 ^ n ∧ 2 ^ n ≤ s + 0 then sL (fun a => if tb s a then wt' b (tb s) a * cl c r a * t (s - 2 ^ a) else 0) 7 else t s) = t := by
    funext s
    rw [if_neg (by omega)]
  simp only [e0, if_pos hp, Nat.sub_zero] at h
  rw [h]
  rfl
theorem takeRow_Dp {n r : Nat} (hn : n ≤ 7) (hr : r < n) (b : Bool) {t : Nat → Int64} (c : Nat → Int32) {rs : List Nat} (h : Dp n t (Bk (wt b) (cl c) rs)) : ∃ t', f_X0_takeRow t (nI n) c (nI r) (b2i b) = some t' ∧ Dp n t' (Bk (wt b) (cl c) (rs ++ [r])) := by
  refine ⟨_, takeRow_n hn hr b t c, fun s hs => ?_⟩
  by_cases e : s < 2 ^ n
  · rw [if_pos e, if_pos e, Bk_last]
    refine sL_congr (fun a ha => ?_)
    by_cases ht : tb s a = true
    · have hsub := Nat.sub_le s (2 ^ a)
      rw [if_pos ht, if_pos ht, h (s - 2 ^ a) (Nat.lt_of_le_of_lt hsub hs), if_pos (Nat.lt_of_le_of_lt hsub e), tb_sub hs ha ht]
    · rw [if_neg ht, if_neg ht]
  · rw [if_neg e, if_neg e, h s hs, if_neg e]
