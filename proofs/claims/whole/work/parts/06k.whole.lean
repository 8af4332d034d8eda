/-! MATHEMATICS: the whole diagonals on both sides -/
theorem getD_mem {p : List Nat} {n i : Nat} (hl : p.length = n) (hv : ∀ v ∈ p, v < n) (hi : i < n) : p.getD i 0 < n := by
  refine hv _ ?_
  rw [List.getD_eq_getElem?_getD, List.getElem?_eq_getElem (by omega)]
  exact List.getElem_mem _
theorem nz_congr {c z : Nat → Int32} (h : ∀ k, k < 49 → c k = z k) {k : Nat} (hk : k < 49) : nz c k = nz z k := by
  unfold nz
  rw [h k hk]
theorem WL_congr {c z : Nat → Int32} (h : ∀ k, k < 49 → c k = z k) : ∀ (k r : Nat) (S : Nat → Bool), r + k ≤ 7 → WL c k r S = WL z k r S := by
  intro k
  induction k with
  | zero => intro r S _; rfl
  | succ k ih =>
    intro r S hr
    rw [WL_succ, WL_succ]
    refine cat_congr (fun a ha => ?_)
    unfold HW
    rw [nz_congr h (by omega), ih (r + 1) (dl S a) (by omega)]
theorem whL_all (z : Nat → Int32) : ∀ (q : List Nat) (r : Nat), whL z r q = allB (fun i => nz z (7 * (r + i) + q.getD i 0)) q.length := by
  intro q
  induction q with
  | nil => intro r; rfl
  | cons a q ih =>
    intro r
    rw [whL, ih (r + 1), List.length_cons]
    have key : ∀ (P : Nat → Bool) (n : Nat), allB P (n + 1) = (P 0 && allB (fun i => P (i + 1)) n) := by
      intro P n
      induction n with
      | zero => show (true && P 0) = (P 0 && true); cases P 0 <;> rfl
      | succ n ih => rw [allB, ih, allB, Bool.and_assoc]
    rw [key]
    congr 1
    refine allB_congr (fun i _ => ?_)
    rw [show r + 1 + i = r + (i + 1) by omega]
    rfl
theorem whL_zero {z : Nat → Int32} {p : List Nat} {n : Nat} (hl : p.length = n) : whL z 0 p = allB (fun i => nz z (7 * i + p.getD i 0)) n := by
  rw [whL_all, hl]
  refine allB_congr (fun i _ => ?_)
  rw [Nat.zero_add]
theorem prodL_whole {z : Nat → Int32} {p : List Nat} {n : Nat} (hl : p.length = n) : prodL (mk z) (List.range n) p = if whL z 0 p then 1 else 0 := by
  rw [prodL_pL _ _ _ (by rw [List.length_range, hl]), List.length_range, whL_zero hl]
  refine pL01 (fun k hk => ?_)
  rw [range_getD hk]
  generalize p.getD k 0 = w
  unfold mk nz
  by_cases hzz : z (7 * k + w) = 0
  · rw [if_pos hzz]
    simp [hzz]
  · rw [if_neg hzz]
    simp [hzz]
theorem lsum_count {α : Type} (P : α → Bool) (F : α → Int64) : ∀ L : List α, (∀ a ∈ L, F a = if P a then 1 else 0) → (lsum F L).toInt32 = nI (L.filter P).length := by
  intro L
  induction L with
  | nil => intro _; rfl
  | cons a L ih =>
    intro h
    show (F a + lsum F L).toInt32 = _
    rw [Int64.toInt32_add, ih (fun b hb => h b (List.mem_cons_of_mem _ hb)), h a List.mem_cons_self, List.filter_cons]
    by_cases hp : P a = true
    · rw [if_pos hp, if_pos hp, List.length_cons, show (1 : Int64).toInt32 = nI 1 from rfl, nI_add, Nat.add_comm]
    · rw [if_neg hp, if_neg hp, show (0 : Int64).toInt32 = nI 0 from rfl, nI_add, Nat.zero_add]
theorem cs_zero {n : Nat} : fl (cs n 0) 7 = fl (fun a => decide (a < n)) 7 := by
  unfold cs
  refine fl_congr (fun a _ => ?_)
  rw [Nat.zero_testBit]
  simp
theorem fl_cs0 : ∀ n, n ≤ 7 → fl (cs n 0) 7 = List.range n := by
  intro n hn
  rw [cs_zero]
  have : ∀ n, n ≤ 7 → fl (fun a => decide (a < n)) 7 = List.range n := by decide
  exact this n hn
theorem WL_whole {z : Nat → Int32} {n : Nat} (hn : n ≤ 7) : WL z n 0 (cs n 0) = (prm n (List.range n)).filter (whL z 0) := by
  unfold WL
  rw [fl_cs0 n hn]
theorem pc_zero : pc 0 = 0 := rfl
theorem EW_zero {z : Nat → Int32} {n : Nat} (hn : n ≤ 7) : EW z n 0 = ((prm n (List.range n)).filter (whL z 0)).length := by
  unfold EW
  rw [pc_zero, Nat.sub_zero, WL_whole hn]
theorem st_wholeDiagonals {n : Nat} {c z : Nat → Int32} (h : Mx n c z) (t o rt ct : Nat → Int32) : ∃ r t' o' rt' ct', f_X9_wholeDiagonals (nI n) c t = some (r, t') ∧ f_X10_wholeDiagonals z o rt ct = some (r, o', rt', ct') := by
  obtain ⟨h1, hn, hc, hz49, h0, hz⟩ := h
  have hlt := full_lt n
  have h7 : 2 ^ n ≤ 128 := two_pow_le hn
  obtain ⟨t', e1, e2⟩ := countWhole_n (z := c) h1 hn t
  obtain ⟨o', rt', ct', e3⟩ := sumOfSets_n hz (R := 2 ^ n - 1) (C := 2 ^ n - 1) (by omega) (by omega) rfl true o rt ct
  change f_X10_sumOfSets z o rt ct (nI (2 ^ n - 1)) (nI (2 ^ n - 1)) 1 = _ at e3
  have e4 := prm_sum (wt false) (mk z) (fun _ => 1) rfl (fun S a q _ _ _ => rfl) (List.range n) (tb (2 ^ n - 1)) (by rw [List.length_range, tb_full_cnt n hn])
  rw [List.length_range, fl_full n hn] at e4
  have e5 := lsum_count (whL z 0) (fun p => 1 * prodL (mk z) (List.range n) p) (prm n (List.range n)) (fun p hp => by
    rw [prodL_whole (prm_range_mem hp).1]
    split <;> rfl)
  rw [e4] at e5
  refine ⟨nI (EW z n 0), t', o', rt', ct', ?_, ?_⟩
  · unfold f_X9_wholeDiagonals
    rw [e1, bs, show (0 : Int32) = nI 0 from rfl, of2_n (by omega), bs, e2 0 (by omega)]
    unfold EW
    rw [WL_congr hc _ _ _ (by rw [pc_zero]; omega)]
  · unfold f_X10_wholeDiagonals
    rw [mall_n hz49 hn, bs, bs, e3, bs]
    dsimp only
    rw [fl_full n hn, show cm true z = mk z from rfl, e5, EW_zero hn]
theorem number_n {z o : Nat → Int32} {n : Nat} {p : List Nat} (hz49 : z 49 = nI n) (hn : n ≤ 7) (hl : p.length = n) (ho : Od o p) : f_X10_number z o = some (nI (numL p)) := by
  unfold f_X10_number
  have h := lp_cnt (body := f_X10_number_L1 z o) (fun j => nI (numL (p.take j))) n (nI (numL p)) (fun j hj => by
    rw [f_X10_number_L1, gd_t (by decide), mz49 hz49, if_neg (by rw [nI_leI (by omega) (by omega)]; omega), gd_okI (by omega) (by omega), nI_clamp (by omega), ho.at (show j < p.length by omega), show ((10 : Int32) * nI (numL (p.take j))) = nI (10 * numL (p.take j)) from pk_mul 10 _, nI_add, pl_e, nI_1, pl_e]
    rw [List.take_succ_eq_append_getElem (by omega), numL_push]) (by
    rw [f_X10_number_L1, gd_t (by decide), mz49 hz49, if_pos (by rw [nI_leI (by omega) (by omega)]; omega), ← hl, List.take_length]) (by omega)
  change lpN _ FU ((0 : Int32), (0 : Int32)) = _ at h
  rw [h, bs]
/-- the search for the whole one of a rank -/
def gR (z : Nat → Int32) (b : Nat) (p : List Nat) : Nat ⊕ List Nat := if whL z 0 p then (match b with | 0 => .inr p | k + 1 => .inl k) else .inl b
theorem foldE_rank (z : Nat → Int32) : ∀ (L : List (List Nat)) (b : Nat), (∃ p, (L.filter (whL z 0))[b]? = some p ∧ foldE (gR z) L b = .inr p) ∨ ((L.filter (whL z 0)).length ≤ b ∧ ∃ b', foldE (gR z) L b = .inl b') := by
  intro L
  induction L with
  | nil => intro b; right; exact ⟨Nat.zero_le _, b, rfl⟩
  | cons a L ih =>
    intro b
    rw [foldE, List.filter_cons]
    by_cases h : whL z 0 a = true
    · rw [if_pos h]
      cases b with
      | zero =>
        left
        refine ⟨a, rfl, ?_⟩
        unfold gR
        rw [if_pos h]
      | succ k =>
        have : gR z (k + 1) a = .inl k := by unfold gR; rw [if_pos h]
        rw [this]
        rcases ih k with ⟨p, h1, h2⟩ | ⟨h1, h2⟩
        · left; exact ⟨p, by rw [List.getElem?_cons_succ]; exact h1, h2⟩
        · right; exact ⟨by rw [List.length_cons]; omega, h2⟩
    · rw [if_neg h]
      have : gR z b a = .inl b := by unfold gR; rw [if_neg h]
      rw [this]
      exact ih b
theorem mwholeDiagonal_n {z : Nat → Int32} {n i : Nat} (hz49 : z 49 = nI n) (hn : n ≤ 7) (hi : i < 2 ^ 31) (o : Nat → Int32) : (∃ p o', ((prm n (List.range n)).filter (whL z 0))[i]? = some p ∧ f_X10_wholeDiagonal z o (nI i) = some (nI (numL p), o')) ∨ (((prm n (List.range n)).filter (whL z 0)).length ≤ i ∧ ∃ o', f_X10_wholeDiagonal z o (nI i) = some ((-2000000005 : Int32), o')) := by
  unfold f_X10_wholeDiagonal
  rw [if_pos (by rw [show (0 : Int32) = nI 0 from rfl, nI_leI (by omega) (by omega)]; omega), gd_t (by decide), mz49 hz49]
  obtain ⟨o1, e1, e2⟩ := first_n hn o
  rw [e1, bs]
  have hloop : ∃ o', lpN (f_X10_wholeDiagonal_L1 z) FU (nI i, (1 : Int32), o1) = some (match foldE (gR z) (prm n (List.range n)) i with | .inl _ => .inl o' | .inr p => .inr (nI (numL p), o')) := by
    have key : ∀ (L : List (List Nat)) (p zz : List Nat), Pth p L zz → (∀ q ∈ L, q.length = n ∧ ∀ v ∈ q, v < n) → zz.Pairwise (fun a b => b < a) → ∀ (b : Nat) (o : Nat → Int32) (fuel : Nat), b < 2 ^ 31 → Od o p → L.length < fuel → ∃ o', lpN (f_X10_wholeDiagonal_L1 z) fuel (nI b, (1 : Int32), o) = some (match foldE (gR z) L b with | .inl _ => .inl o' | .inr p => .inr (nI (numL p), o')) := by
      intro L
      induction L with
      | nil => intro p zz h; exact h.elim
      | cons a L ih =>
        intro p zz h hq hz b o fuel hb ho hf
        obtain ⟨rfl, h⟩ := h
        obtain ⟨ha1, ha2⟩ := hq a List.mem_cons_self
        have ha3 : ∀ v ∈ a, v < 7 := fun v hv => by
          have := ha2 v hv
          omega
        have hend : ∀ (b : Nat) o, f_X10_wholeDiagonal_L1 z (nI b, (0 : Int32), o) = some (.inr (.inl o)) := by
          intro b o
          rw [f_X10_wholeDiagonal_L1, if_pos rfl]
        cases fuel with
        | zero => omega
        | succ f =>
          have hw := misWhole_n hz49 hn ha1 ha2 ho
          rw [← whL_zero ha1] at hw
          have goOn : ∀ b', b' < 2 ^ 31 → gR z b a = .inl b' → f_X10_wholeDiagonal_L1 z (nI b, (1 : Int32), o) = (f_X10_nextOrder o (nI n)).bind (fun y => some (.inl (nI b', y.1, y.2))) → ∃ o', lpN (f_X10_wholeDiagonal_L1 z) (f + 1) (nI b, (1 : Int32), o) = some (match foldE (gR z) (a :: L) b with | .inl _ => .inl o' | .inr p => .inr (nI (numL p), o')) := by
            intro b' hb' hg hbody
            rw [foldE, hg]
            rcases h with ⟨rfl, rfl⟩ | ⟨q, h1, h2⟩
            · rw [next_last ha1 hn ha3 ho hz] at hbody
              rw [lp_step hbody]
              cases f with
              | zero => simp at hf
              | succ f => exact ⟨o, lp_end (hend _ o)⟩
            · obtain ⟨o', h3, h4⟩ := next_some ha1 hn ha3 ho h1
              rw [h3] at hbody
              rw [lp_step hbody]
              exact ih q zz h2 (fun r hr => hq r (List.mem_cons_of_mem _ hr)) hz b' o' f hb' h4 (by simp at hf; omega)
          by_cases hwh : whL z 0 a = true
          · rw [hwh] at hw
            cases b with
            | zero =>
              have hg : gR z 0 a = .inr a := by unfold gR; rw [if_pos hwh]
              rw [foldE, hg]
              refine ⟨o, lp_end ?_⟩
              rw [f_X10_wholeDiagonal_L1, if_neg (by decide), hw, bs, if_neg (show ¬ b2i true = 0 by decide), if_pos (by rfl), number_n hz49 hn ha1 ho, bs]
            | succ k =>
              refine goOn k (by omega) (by unfold gR; rw [if_pos hwh]) ?_
              rw [f_X10_wholeDiagonal_L1, if_neg (by decide), hw, bs, if_neg (show ¬ b2i true = 0 by decide), if_neg (by rw [show (0 : Int32) = nI 0 from rfl, nI_eq (by omega) (by omega)]; omega), if_neg (show ¬ b2i true = 0 by decide), bs, pl_e, gd_t (by decide), mz49 hz49, nI_sub1 (by omega)]
              rfl
          · have hw' : whL z 0 a = false := by simpa using hwh
            rw [hw'] at hw
            refine goOn b hb (by unfold gR; rw [if_neg hwh]) ?_
            rw [f_X10_wholeDiagonal_L1, if_neg (by decide), hw, bs, if_pos (show b2i false = 0 by decide), if_pos (show b2i false = 0 by decide), bs, pl_e, gd_t (by decide), mz49 hz49, show nI b - (0 : Int32) = nI b from pk_sub (b := 0) (by omega)]
    have hs : (List.range n).Pairwise (fun a b => a < b) := List.pairwise_lt_range
    refine key (prm n (List.range n)) (List.range n) (List.range n).reverse (prm_path n _ List.length_range hs) (fun q hq => prm_range_mem hq) ?_ i o1 FU hi e2 (FU_lt ?_)
    · rw [List.pairwise_reverse]
      exact hs
    · rw [prm_len n _ List.length_range]
      have := fct_le hn
      omega
  obtain ⟨o', e3⟩ := hloop
  rcases foldE_rank z (prm n (List.range n)) i with ⟨p, h1, h2⟩ | ⟨h1, b', h2⟩
  · left
    rw [h2] at e3
    rw [e3, bs]
    exact ⟨p, o', h1, rfl⟩
  · right
    rw [h2] at e3
    rw [e3, bs]
    exact ⟨h1, o', rfl⟩
theorem st_wholeDiagonal {n : Nat} {c z : Nat → Int32} (h : Mx n c z) (t o : Nat → Int32) (a1 : Int32) : ∃ r t' o', f_X9_wholeDiagonal (nI n) c t a1 = some (r, t') ∧ f_X10_wholeDiagonal z o a1 = some (r, o') := by
  obtain ⟨h1, hn, hc, hz49, h0, hz⟩ := h
  have h7 : 2 ^ n ≤ 128 := two_pow_le hn
  have hp0 : 0 < 2 ^ n := Nat.pow_pos (by omega)
  by_cases hx : a1 < 0
  · unfold f_X9_wholeDiagonal f_X10_wholeDiagonal
    rw [if_neg (fun hc => absurd hx (Int32_not_lt_of_le hc)), if_neg (fun hc => absurd hx (Int32_not_lt_of_le hc))]
    exact ⟨_, _, _, rfl, rfl⟩
  · obtain ⟨i, hi, rfl⟩ := nI_of hx
    obtain ⟨t', e1, e2⟩ := countWhole_n (z := c) h1 hn t
    have eE : EW c n 0 = ((prm n (List.range n)).filter (whL z 0)).length := by
      rw [← EW_zero hn]
      unfold EW
      rw [WL_congr hc _ _ _ (by rw [pc_zero]; omega)]
    have hEl := EW_le (z := c) (u := 0) hn hp0
    unfold f_X9_wholeDiagonal
    rw [if_pos (by rw [show (0 : Int32) = nI 0 from rfl, nI_leI (by omega) (by omega)]; omega), e1, bs, show (0 : Int32) = nI 0 from rfl, of2_n (by omega), bs, e2 0 hp0]
    rcases mwholeDiagonal_n hz49 hn hi o with ⟨p, o', m1, m2⟩ | ⟨m1, o', m2⟩
    · have hlt := (List.getElem?_eq_some_iff.mp m1).1
      rw [if_pos (by rw [nI_ltI (by omega) (by omega), eE]; exact hlt)]
      rw [diagonalOfRank_n (w := p) h1 hn e2 (by rw [WL_congr hc _ _ _ (by omega), WL_whole hn]; exact m1), bs]
      exact ⟨_, _, _, rfl, m2⟩
    · rw [if_neg (by rw [nI_ltI (by omega) (by omega), eE]; omega)]
      exact ⟨_, _, _, rfl, m2⟩
