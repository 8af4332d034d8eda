/-! MATHEMATICS: whole diagonals, counted and by rank -/
def whL (z : Nat → Int32) : Nat → List Nat → Bool
  | _, [] => true
  | r, a :: q => nz z (7 * r + a) && whL z (r + 1) q
def WL (z : Nat → Int32) (k r : Nat) (S : Nat → Bool) : List (List Nat) := (prm k (fl S 7)).filter (whL z r)
def cat (H : Nat → List (List Nat)) : Nat → List (List Nat)
  | 0 => []
  | n + 1 => cat H n ++ H n
theorem cat_congr {H G : Nat → List (List Nat)} {n : Nat} (h : ∀ a, a < n → H a = G a) : cat H n = cat G n := by
  induction n with
  | zero => rfl
  | succ n ih => rw [cat, cat, ih (fun a ha => h a (by omega)), h n (by omega)]
theorem flat_cat (S : Nat → Bool) (G : Nat → List (List Nat)) (n : Nat) : (fl S n).flatMap G = cat (fun a => if S a then G a else []) n := by
  induction n with
  | zero => rfl
  | succ n ih =>
    rw [fl_succ, List.flatMap_append, ih, cat]
    congr 1
    by_cases h : S n = true
    · rw [if_pos h, if_pos h]; simp
    · rw [if_neg h, if_neg h]; simp
theorem filter_cat (P : List Nat → Bool) (H : Nat → List (List Nat)) (n : Nat) : (cat H n).filter P = cat (fun a => (H a).filter P) n := by
  induction n with
  | zero => rfl
  | succ n ih => rw [cat, List.filter_append, ih, cat]
def HW (z : Nat → Int32) (k r : Nat) (S : Nat → Bool) (a : Nat) : List (List Nat) := if (S a && nz z (7 * r + a)) = true then (WL z k (r + 1) (dl S a)).map (fun q => a :: q) else []
theorem WL_succ (z : Nat → Int32) (k r : Nat) (S : Nat → Bool) : WL z (k + 1) r S = cat (HW z k r S) 7 := by
  unfold WL
  rw [prm, flat_cat, filter_cat]
  refine cat_congr (fun a ha => ?_)
  unfold HW WL
  by_cases hS : S a = true
  · rw [if_pos hS, List.filter_map, fl_erase]
    by_cases hz : nz z (7 * r + a) = true
    · rw [if_pos (by rw [hS, hz]; rfl)]
      congr 1
      refine List.filter_congr (fun q _ => ?_)
      show (nz z (7 * r + a) && whL z (r + 1) q) = _
      rw [hz, Bool.true_and]
    · rw [if_neg (by rw [hS]; simpa using hz)]
      have : (prm k (fl (dl S a) 7)).filter ((whL z r) ∘ fun q => a :: q) = [] := by
        rw [List.filter_eq_nil_iff]
        intro q _
        show ¬ (nz z (7 * r + a) && whL z (r + 1) q) = true
        rw [Bool.and_eq_true]
        exact fun hc => hz hc.1
      rw [this]
      rfl
  · rw [if_neg hS, if_neg (by rw [Bool.and_eq_true]; exact fun hc => hS hc.1)]
    rfl
theorem cat_len (H : Nat → List (List Nat)) (n : Nat) : (cat H n).length = sN (fun a => (H a).length) n := by
  induction n with
  | zero => rfl
  | succ n ih => rw [cat, List.length_append, ih, sN]
theorem sN_mono {f : Nat → Nat} {a b : Nat} (h : a ≤ b) : sN f a ≤ sN f b := by
  obtain ⟨d, rfl⟩ := Nat.exists_eq_add_of_le h
  induction d with
  | zero => exact Nat.le_refl _
  | succ d ih => exact Nat.le_trans (ih (by omega)) (by show _ ≤ sN f (a + d) + f (a + d); omega)
theorem cat_get {H : Nat → List (List Nat)} {c n i : Nat} (hc : c < n) (h1 : sN (fun a => (H a).length) c ≤ i) (h2 : i < sN (fun a => (H a).length) (c + 1)) : (cat H n)[i]? = (H c)[i - sN (fun a => (H a).length) c]? := by
  have key : ∀ d, (cat H (c + 1 + d))[i]? = (H c)[i - sN (fun a => (H a).length) c]? := by
    intro d
    induction d with
    | zero =>
      rw [Nat.add_zero, cat, List.getElem?_append_right (by rw [cat_len]; exact h1), cat_len]
    | succ d ih =>
      rw [← Nat.add_assoc, cat, List.getElem?_append_left, ih]
      rw [cat_len]
      exact Nat.lt_of_lt_of_le h2 (sN_mono (by omega))
  have := key (n - (c + 1))
  rw [show c + 1 + (n - (c + 1)) = n by omega] at this
  exact this
theorem sN_find {f : Nat → Nat} {n i : Nat} (h : i < sN f n) : ∃ c, c < n ∧ sN f c ≤ i ∧ i < sN f (c + 1) := by
  induction n with
  | zero => exact absurd h (Nat.not_lt_zero i)
  | succ n ih =>
    by_cases h2 : i < sN f n
    · obtain ⟨c, h3, h4, h5⟩ := ih h2
      exact ⟨c, by omega, h4, h5⟩
    · exact ⟨n, by omega, by omega, h⟩
/-- the columns that are left -/
def cs (n u : Nat) : Nat → Bool := fun a => decide (a < n) && !u.testBit a
theorem or_no0 : ∀ n, n ≤ 7 → ∀ u, u < 2 ^ n → ∀ a, a < n → (u.testBit a || (decide ((u ||| 2 ^ a) < 2 ^ n) && decide (u < (u ||| 2 ^ a)) && decide (pc (u ||| 2 ^ a) = pc u + 1))) = true := by decide +kernel
theorem or_no (n : Nat) (hn : n ≤ 7) (u : Nat) (hu : u < 2 ^ n) (a : Nat) (ha : a < n) (h : u.testBit a = false) : (u ||| 2 ^ a) < 2 ^ n ∧ u < (u ||| 2 ^ a) ∧ pc (u ||| 2 ^ a) = pc u + 1 := by
  have h0 := or_no0 n hn u hu a ha
  rw [h, Bool.false_or, Bool.and_eq_true, Bool.and_eq_true] at h0
  exact ⟨of_decide_eq_true h0.1.1, of_decide_eq_true h0.1.2, of_decide_eq_true h0.2⟩
theorem or_yes : ∀ u, u < 128 → ∀ a, a < 7 → u.testBit a = true → (u ||| 2 ^ a) = u := by decide +kernel
theorem pc_below : ∀ n, n ≤ 7 → ∀ u, u < 2 ^ n - 1 → pc u < n := by decide +kernel
theorem pc_full : ∀ n, n ≤ 7 → pc (2 ^ n - 1) = n := by decide +kernel
theorem cs_cnt : ∀ n, n ≤ 7 → ∀ u, u < 2 ^ n → cntB (fun a => decide (a < n) && !u.testBit a) 7 = n - pc u := by decide +kernel
theorem cs_dl {n u a : Nat} : dl (cs n u) a = cs n (u ||| 2 ^ a) := by
  funext x
  unfold dl cs
  rw [Nat.testBit_or, Nat.testBit_two_pow, Bool.not_or, Bool.and_assoc]
  congr 2
  by_cases h : x = a
  · subst h; simp
  · rw [decide_eq_false h, decide_eq_false (fun hc => h hc.symm)]
def EW (z : Nat → Int32) (n u : Nat) : Nat := (WL z (n - pc u) (pc u) (cs n u)).length
theorem EW_le {z : Nat → Int32} {n u : Nat} (hn : n ≤ 7) (hu : u < 2 ^ n) : EW z n u ≤ 5040 := by
  refine Nat.le_trans (List.length_filter_le _ _) ?_
  rw [prm_len]
  · exact fct_le (by omega)
  · rw [fl_len]
    exact cs_cnt n hn u hu
def tw (z : Nat → Int32) (n u a : Nat) : Nat := if (cs n u a && nz z (7 * pc u + a)) = true then EW z n (u ||| 2 ^ a) else 0
theorem tw_HW {z : Nat → Int32} {n u : Nat} (hn : n ≤ 7) (hu : u < 2 ^ n) (a : Nat) (ha : a < 7) : (HW z (n - pc u - 1) (pc u) (cs n u) a).length = tw z n u a := by
  unfold HW tw
  by_cases h : (cs n u a && nz z (7 * pc u + a)) = true
  · rw [if_pos h, if_pos h, List.length_map]
    rw [Bool.and_eq_true] at h
    have h1 := h.1
    unfold cs at h1
    rw [Bool.and_eq_true] at h1
    have h2 : a < n := of_decide_eq_true h1.1
    have h3 : u.testBit a = false := by simpa using h1.2
    unfold EW
    rw [(or_no n hn u hu a h2 h3).2.2, cs_dl, show n - (pc u + 1) = n - pc u - 1 by omega]
  · rw [if_neg h, if_neg h]
    rfl
theorem tw_out {z : Nat → Int32} {n u a : Nat} (h : n ≤ a) : tw z n u a = 0 := by
  unfold tw
  rw [if_neg]
  unfold cs
  rw [decide_eq_false (by omega)]
  simp
theorem sN_out {f : Nat → Nat} {n m : Nat} (hnm : n ≤ m) (h : ∀ a, n ≤ a → a < m → f a = 0) : sN f m = sN f n := by
  obtain ⟨d, rfl⟩ := Nat.exists_eq_add_of_le hnm
  induction d with
  | zero => rfl
  | succ d ih =>
    rw [← Nat.add_assoc, sN, ih (by omega) (fun a h1 h2 => h a h1 (by omega)), h (n + d) (by omega) (by omega), Nat.add_zero]
theorem EW_succ {z : Nat → Int32} {n u : Nat} (hn : n ≤ 7) (hu : u < 2 ^ n - 1) : EW z n u = sN (tw z n u) n := by
  have hp := pc_below n hn u hu
  unfold EW
  rw [show n - pc u = (n - pc u - 1) + 1 by omega, WL_succ, cat_len, sN_congr (g := tw z n u) (fun a ha => tw_HW hn (by omega) a ha)]
  exact sN_out hn (fun a h1 _ => tw_out h1)
theorem EW_full {z : Nat → Int32} {n : Nat} (hn : n ≤ 7) : EW z n (2 ^ n - 1) = 1 := by
  unfold EW
  rw [pc_full n hn, Nat.sub_self]
  rfl
theorem of2_n {k : Nat} (h : k < 128) (t : Nat → Int32) : f_X2_of t (nI k) = some (t k) := by
  unfold f_X2_of
  simp (disch := omega) only [lit32, bs, pl_e, gd_okI, nI_leI, nI_ltI, nI_eq, nI_add, pk_mul, pk_sub, nI_m1', nI_clamp, if_pos, if_neg, ↓reduceIte]
theorem put2_n {k : Nat} (h : k < 128) (t : Nat → Int32) (v : Int32) : f_X2_put t (nI k) v = some (upd t k v) := by
  unfold f_X2_put
  simp (disch := omega) only [lit32, bs, pl_e, gd_okI, nI_leI, nI_ltI, nI_eq, nI_add, pk_mul, pk_sub, nI_m1', nI_clamp, if_pos, if_neg, ↓reduceIte]
theorem countThrough_n {z t : Nat → Int32} {n u a : Nat} (hn : n ≤ 7) (hu : u < 2 ^ n - 1) (ha : a < n) (ht : ∀ v, u < v → v < 2 ^ n → t v = nI (EW z n v)) : f_X2_countThrough t (nI n) z (nI (pc u)) (nI a) (nI u) = some (nI (tw z n u a)) := by
  have h7 : 2 ^ n ≤ 128 := two_pow_le hn
  have hp := pc_below n hn u hu
  unfold f_X2_countThrough
  rw [sh1 a (by omega), nI_or, pl_e]
  cases hb : u.testBit a with
  | true =>
    rw [or_yes u (by omega) a (by omega) hb, if_pos rfl]
    unfold tw cs
    rw [hb, if_neg (by simp)]
    rfl
  | false =>
    obtain ⟨o1, o2, o3⟩ := or_no n hn u (by omega) a ha hb
    rw [if_neg (by rw [nI_eq (by omega) (by omega)]; omega), at_n hp ha hn, bs]
    by_cases hz : z (7 * pc u + a) = 0
    · rw [if_pos hz]
      have : nz z (7 * pc u + a) = false := decide_eq_false (fun h => h hz)
      unfold tw
      rw [this, if_neg (by simp)]
      rfl
    · rw [if_neg hz, of2_n (by omega), bs, ht _ o2 o1]
      have : nz z (7 * pc u + a) = true := decide_eq_true hz
      unfold tw cs
      rw [this, hb, if_pos (by simpa using ha)]
theorem countWhole_n {z : Nat → Int32} {n : Nat} (h1 : 1 ≤ n) (hn : n ≤ 7) (t : Nat → Int32) : ∃ t', f_X2_countWhole t (nI n) z = some t' ∧ ∀ u, u < 2 ^ n → t' u = nI (EW z n u) := by
  have h7 : 2 ^ n ≤ 128 := two_pow_le hn
  have hp0 : 2 ≤ 2 ^ n := by
    have := Nat.pow_le_pow_right (n := 2) (by omega) h1
    omega
  unfold f_X2_countWhole
  rw [allLines_n n hn, bs, put2_n (by omega), bs, nI_sub1 (by omega), pl_e]
  obtain ⟨t', e1, e2⟩ := lp_cntX (body := f_X2_countWhole_L1 (nI n) z) (fun j (a : Nat → Int32) => (if j < 2 ^ n - 1 then nI (2 ^ n - 1 - 1 - j) else -1, a)) (fun j a => ∀ u, 2 ^ n - 1 - j ≤ u → u < 2 ^ n → a u = nI (EW z n u)) (2 ^ n - 1) (fun a => ∀ u, u < 2 ^ n → a u = nI (EW z n u)) (fun j a hj hp => by
    have hu : 2 ^ n - 1 - 1 - j < 2 ^ n - 1 := by omega
    have hpc := pc_below n hn _ hu
    rw [if_pos hj, f_X2_countWhole_L1, if_neg (by
      intro hc
      rw [show (0 : Int32) = nI 0 from rfl, nI_ltI (by omega) (by omega)] at hc
      omega), bitCount_n _ (by omega), bs]
    have hin := lp_cnt (body := f_X2_countWhole_L2 (nI (2 ^ n - 1 - 1 - j)) (nI (pc (2 ^ n - 1 - 1 - j))) a (nI n) z) (fun i => nI (sN (tw z n (2 ^ n - 1 - 1 - j)) i)) n (nI (sN (tw z n (2 ^ n - 1 - 1 - j)) n)) (fun i hi => by
      rw [f_X2_countWhole_L2, f_X4_size, bs, if_neg (by rw [nI_leI (by omega) (by omega)]; omega), countThrough_n hn hu hi (fun v h1 h2 => hp v (by omega) h2), bs, pl_e, pl_e, nI_1, nI_add]
      rfl) (by
      rw [f_X2_countWhole_L2, f_X4_size, bs, if_pos (by rw [nI_leI (by omega) (by omega)]; omega)]) (by omega)
    change lpN _ FU ((0 : Int32), (0 : Int32)) = _ at hin
    rw [hin, bs, put2_n (by omega), bs, pl_e, ← EW_succ hn hu]
    refine ⟨upd a (2 ^ n - 1 - 1 - j) (nI (EW z n (2 ^ n - 1 - 1 - j))), ?_, ?_⟩
    · have e1 : nI (2 ^ n - 1 - 1 - j) + (-1 : Int32) = if j + 1 < 2 ^ n - 1 then nI (2 ^ n - 1 - 1 - (j + 1)) else -1 := by
        by_cases e : j + 1 < 2 ^ n - 1
        · rw [if_pos e, nI_m1 (by omega)]
          congr 1
        · rw [if_neg e, show 2 ^ n - 1 - 1 - j = 0 by omega]
          rfl
      rw [e1]
    · intro u h3 h4
      unfold upd
      by_cases e : u = 2 ^ n - 1 - 1 - j
      · rw [if_pos e, e]
      · rw [if_neg e]
        exact hp u (by omega) h4) (fun a hp => by
    rw [if_neg (by omega), f_X2_countWhole_L1, if_pos (by decide)]
    exact ⟨a, rfl, fun u hu => hp u (by omega) hu⟩) (FU_lt (by omega)) (a := upd t (2 ^ n - 1) 1) (fun u h3 h4 => by
    have : u = 2 ^ n - 1 := by omega
    subst this
    unfold upd
    rw [if_pos rfl, EW_full hn]
    rfl)
  rw [if_pos (by omega)] at e1
  rw [show 2 ^ n - 1 - 1 - 0 = 2 ^ n - 1 - 1 by omega] at e1
  rw [e1, bs]
  exact ⟨t', rfl, e2⟩
/-- an order as a number -/
def numL (p : List Nat) : Nat := p.foldl (fun d a => 10 * d + a) 0
theorem numL_push (p : List Nat) (a : Nat) : numL (p ++ [a]) = 10 * numL p + a := by
  unfold numL
  rw [List.foldl_append]
  rfl
theorem WL_step {z : Nat → Int32} {n u i : Nat} {y : List Nat} (hn : n ≤ 7) (hu : u < 2 ^ n - 1) (h : (WL z (n - pc u) (pc u) (cs n u))[i]? = some y) : ∃ c y', c < n ∧ sN (tw z n u) c ≤ i ∧ i < sN (tw z n u) (c + 1) ∧ u.testBit c = false ∧ y = c :: y' ∧ (WL z (n - pc (u ||| 2 ^ c)) (pc (u ||| 2 ^ c)) (cs n (u ||| 2 ^ c)))[i - sN (tw z n u) c]? = some y' := by
  have hp := pc_below n hn u hu
  have hi : i < EW z n u := (List.getElem?_eq_some_iff.mp h).1
  rw [EW_succ hn hu] at hi
  obtain ⟨c, h1, h2, h3⟩ := sN_find hi
  have hs : ∀ d, d ≤ 7 → sN (fun a => (HW z (n - pc u - 1) (pc u) (cs n u) a).length) d = sN (tw z n u) d := fun d hd => sN_congr (fun a ha => tw_HW hn (by omega) a (by omega))
  rw [show n - pc u = (n - pc u - 1) + 1 by omega, WL_succ, cat_get (c := c) (by omega) (by rw [hs c (by omega)]; exact h2) (by rw [hs (c + 1) (by omega)]; exact h3), hs c (by omega)] at h
  unfold HW at h
  by_cases hc : (cs n u c && nz z (7 * pc u + c)) = true
  · rw [if_pos hc, List.getElem?_map] at h
    rw [Bool.and_eq_true] at hc
    have hc1 := hc.1
    unfold cs at hc1
    rw [Bool.and_eq_true] at hc1
    have hb : u.testBit c = false := by simpa using hc1.2
    obtain ⟨o1, o2, o3⟩ := or_no n hn u (by omega) c h1 hb
    rw [Option.map_eq_some_iff] at h
    obtain ⟨y', h4, h5⟩ := h
    refine ⟨c, y', h1, h2, h3, hb, h5.symm, ?_⟩
    rw [o3, show n - (pc u + 1) = n - pc u - 1 by omega, ← cs_dl]
    exact h4
  · rw [if_neg hc] at h
    cases h
theorem diagonalOfRank_n {z t : Nat → Int32} {n i : Nat} {w : List Nat} (h1 : 1 ≤ n) (hn : n ≤ 7) (ht : ∀ v, v < 2 ^ n → t v = nI (EW z n v)) (h : (WL z n 0 (cs n 0))[i]? = some w) : f_X2_diagonalOfRank t (nI n) z (nI i) = some (nI (numL w)) := by
  have h7 : 2 ^ n ≤ 128 := two_pow_le hn
  have hp0 : 2 ≤ 2 ^ n := by
    have := Nat.pow_le_pow_right (n := 2) (by omega) h1
    omega
  unfold f_X2_diagonalOfRank
  obtain ⟨r, e1, e2⟩ := lp_cntX (body := f_X2_diagonalOfRank_L1 t (nI n) z) (fun j (a : Int32 × Int32 × Int32) => (a.1, a.2.1, a.2.2, nI j)) (fun j a => ∃ pr u k y, a = (nI (numL pr), nI u, nI k) ∧ pc u = j ∧ u < 2 ^ n ∧ (WL z (n - pc u) (pc u) (cs n u))[k]? = some y ∧ pr ++ y = w) n (fun r => r = nI (numL w)) (fun j a hj hp => by
    obtain ⟨pr, u, k, y, rfl, p1, p2, p3, p4⟩ := hp
    have hu : u < 2 ^ n - 1 := by
      by_cases e : u = 2 ^ n - 1
      · subst e
        rw [pc_full n hn] at p1
        omega
      · omega
    have hk : k < EW z n u := (List.getElem?_eq_some_iff.mp p3).1
    have hk2 := EW_le (z := z) hn p2
    obtain ⟨c, y', c1, c2, c3, c4, rfl, c6⟩ := WL_step hn hu p3
    obtain ⟨o1, o2, o3⟩ := or_no n hn u p2 c c1 c4
    have htw : ∀ a, a < n → tw z n u a ≤ 5040 := by
      intro a ha
      unfold tw
      by_cases hq : (cs n u a && nz z (7 * pc u + a)) = true
      · rw [if_pos hq]
        rw [Bool.and_eq_true] at hq
        have hq1 := hq.1
        unfold cs at hq1
        rw [Bool.and_eq_true] at hq1
        exact EW_le hn (or_no n hn u p2 a ha (by simpa using hq1.2)).1
      · rw [if_neg hq]
        omega
    have hct : ∀ a, a < n → f_X2_countThrough t (nI n) z (nI j) (nI a) (nI u) = some (nI (tw z n u a)) := fun a ha => by
      rw [← p1]
      exact countThrough_n hn hu ha (fun v _ hv => ht v hv)
    rw [f_X2_diagonalOfRank_L1, f_X4_size, bs, if_neg (by rw [nI_leI (by omega) (by omega)]; omega), show (0 : Int32) = nI 0 from rfl, hct 0 (by omega), bs]
    have hin := lp_run (body := f_X2_diagonalOfRank_L2 (nI u) (nI j) t (nI n) z) (fun a => (nI (k - sN (tw z n u) a), nI a, nI (tw z n u a))) c (nI (k - sN (tw z n u) c), nI c) (fun a ha => by
      have m1 : sN (tw z n u) (a + 1) ≤ sN (tw z n u) c := sN_mono (by omega)
      rw [sN] at m1
      have m2 := htw a (by omega)
      rw [f_X2_diagonalOfRank_L2, f_X4_size, bs, nI_sub1 (by omega), if_neg (by rw [nI_leI (by omega) (by omega)]; omega), if_neg (by rw [nI_ltI (by omega) (by omega)]; omega), pl_e, nI_1, pl_e, hct (a + 1) (by omega), bs, show nI (k - sN (tw z n u) a) - nI (tw z n u a) = nI (k - sN (tw z n u) a - tw z n u a) from pk_sub (by omega), sN, Nat.sub_sub]) (by
      have m2 := htw c (by omega)
      rw [sN] at c3
      rw [f_X2_diagonalOfRank_L2, f_X4_size, bs]
      by_cases hq : nI n - (1 : Int32) ≤ nI c
      · rw [if_pos hq]
      · rw [if_neg hq, if_pos (by rw [nI_ltI (by omega) (by omega)]; omega)]) (FU_lt (by omega))
    rw [show k - sN (tw z n u) 0 = k from rfl] at hin
    rw [hin, bs]
    dsimp only
    rw [pl_e, pl_e, pl_e, sh1 c (by omega), nI_or, nI_1, show (10 : Int32) = nI 10 from rfl, show nI (numL pr) * nI 10 = nI (numL pr * 10) from pk_mul _ _, nI_add]
    refine ⟨(nI (numL (pr ++ [c])), nI (u ||| 2 ^ c), nI (k - sN (tw z n u) c)), ?_, pr ++ [c], u ||| 2 ^ c, k - sN (tw z n u) c, y', rfl, by rw [o3, p1], o1, c6, ?_⟩
    · rw [numL_push, Nat.mul_comm]
    · rw [← p4]
      simp) (fun a hp => by
    obtain ⟨pr, u, k, y, rfl, p1, p2, p3, p4⟩ := hp
    rw [f_X2_diagonalOfRank_L1, f_X4_size, bs, if_pos (by rw [nI_leI (by omega) (by omega)]; omega)]
    refine ⟨_, rfl, ?_⟩
    rw [p1, Nat.sub_self] at p3
    have hy : y ∈ WL z 0 n (cs n u) := List.mem_of_getElem? p3
    have hy2 : y = [] := by
      unfold WL at hy
      have := (List.mem_filter.mp hy).1
      rw [prm, List.mem_singleton] at this
      exact this
    rw [hy2, List.append_nil] at p4
    rw [p4]) (FU_lt (by omega)) (a := (nI 0, nI 0, nI i)) ⟨[], 0, i, w, rfl, rfl, by omega, h, rfl⟩
  change lpN _ FU ((0 : Int32), (0 : Int32), nI i, (0 : Int32)) = _ at e1
  rw [e1, bs, e2]
