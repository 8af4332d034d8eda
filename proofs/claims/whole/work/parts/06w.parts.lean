/-! MATHEMATICS: both loops side by side; part, parts -/
theorem apart_both {n : Nat} {z : Nat → Int32} (hz49 : z 49 = nI n) (h1 : 1 ≤ n) (hn : n ≤ 7) : ∀ (m i s : Nat) (W : Nat → Nat) (c c' : Nat → Int32) (e d w o d' w' : Nat → Int32) (f1 f2 : Nat), LK n s W c → LK n s W c' → cntB (nz c) 49 ≤ m → i + m ≤ 49 → m < f1 → m < f2 → (∀ j, j < i → d j = d' j ∧ w j = w' j) → ∃ k C E D V O C' D' V', k ≤ 49 ∧ lpN (f_X6_takeApart_L1 (nI n)) f1 (nI i, nI i, c, e, d, w) = some (nI k, C, E, D, V) ∧ lpN (f_X10_apart_L1 z) f2 (nI i, nI s, o, c', d', w') = some (nI k, O, C', D', V') ∧ ∀ j, j < k → D j = D' j ∧ V j = V' j := by
  intro m
  induction m with
  | zero =>
    intro i s W c c' e d w o d' w' f1 f2 hL hL' hm him hf1 hf2 hD
    have hs : s = 0 := (LK_zero hn h1 hL).mpr (by omega)
    subst hs
    have hcnt : cnt2 c n n = 0 := by
      have : cnt2 c n n = cntB (nz c) 49 := cnt2_all hn (fun r q hr hq hx => by
        rw [hL.1 _ (by omega), hL.2.2.1 r q hr hq hx]
        rfl)
      omega
    refine ⟨i, c, e, d, w, o, c', d', w', by omega, ?_, ?_, hD⟩
    · cases f1 with
      | zero => omega
      | succ f =>
        refine lp_end ?_
        rw [f_X6_takeApart_L1]
        by_cases h49 : (49 : Int32) ≤ nI i
        · rw [if_pos h49]
        · rw [if_neg h49, countNotZero_n hn, bs, hcnt, if_pos (by decide)]
    · cases f2 with
      | zero => omega
      | succ f =>
        refine lp_end ?_
        rw [f_X10_apart_L1, if_pos (by decide)]
  | succ m ih =>
    intro i s W c c' e d w o d' w' f1 f2 hL hL' hm him hf1 hf2 hD
    have hcnt : cnt2 c n n = cntB (nz c) 49 := cnt2_all hn (fun r q hr hq hx => by
      rw [hL.1 _ (by omega), hL.2.2.1 r q hr hq hx]
      rfl)
    have h49 : cntB (nz c) 49 ≤ 49 := cntB_le _ _
    by_cases hs : s = 0
    · exact ih i s W c c' e d w o d' w' f1 f2 hL hL' (by have := (LK_zero hn h1 hL).mp hs; omega) (by omega) (by omega) (by omega) hD
    · have hs140 := LK_s hn h1 hL
      obtain ⟨p, p1, p2, p3⟩ := LK_head hn hL (by omega)
      obtain ⟨p', p1', p2', p3'⟩ := LK_head hn hL' (by omega)
      have hcc : ∀ k, k < 49 → c k = c' k := fun k hk => by rw [hL.1 k hk, hL'.1 k hk]
      have hpp : p' = p := by
        have e1 : (prm n (List.range n)).filter (whL c' 0) = (prm n (List.range n)).filter (whL c 0) := by
          rw [← WL_whole hn, ← WL_whole hn]
          exact WL_congr (fun k hk => (hcc k hk).symm) _ _ _ (by omega)
        rw [e1, p1] at p1'
        exact (Option.some.inj p1').symm
      subst hpp
      cases f1 with
      | zero => omega
      | succ f1 =>
      cases f2 with
      | zero => omega
      | succ f2 =>
      have hpos : ¬ cntB (nz c) 49 = 0 := fun hc => hs ((LK_zero hn h1 hL).mpr hc)
      obtain ⟨t', e1, e2⟩ := countWhole_n (z := c) h1 hn e
      have e3 : f_X2_diagonalOfRank t' (nI n) c (0 : Int32) = some (nI (numL p')) := diagonalOfRank_n (w := p') h1 hn e2 (by
        rw [WL_whole hn, ← List.head?_eq_getElem?]
        exact p1)
      obtain ⟨v, v1, v2, iv, v3, v4⟩ := leastOn_n h1 hn p2 hL.1 hL.2.1
      obtain ⟨o1, q1, q2⟩ := first_n hn o
      obtain ⟨o2, q3, q4⟩ := search_n hz49 hn p1' q2
      obtain ⟨v', w1, w2, iw, w3, w4⟩ := mleastOn_n hz49 h1 hn p2 q4 hL'.1 hL'.2.1
      have hvv : v' = v := by
        have a1 := w2 iv v3
        have a2 := v2 iw w3
        omega
      subst hvv
      have hv0 : 0 < v' := by
        rw [v4]
        exact p3 iv v3
      have hv20 : v' ≤ 20 := by
        rw [v4]
        obtain ⟨hl, hmm⟩ := prm_range_mem p2
        have := getD_mem hl hmm v3
        exact hL.2.1 _ (by omega)
      obtain ⟨c1, d1, d2⟩ := decrease_n h1 hn p2 hL.1 v2
      obtain ⟨c1', d1', d2'⟩ := subtract_n hz49 hn p2 q4 hL'.1 v2
      have hN := LK_less hn hL p2 v2 d2
      have hN' := LK_less hn hL' p2 v2 d2'
      have hlt := LK_cnt hn hL p2 v2 hN ⟨iv, v3, v4⟩ hv0
      have hvs : v' ≤ s := by
        rw [← hL.2.2.2.1 iv v3, v4]
        obtain ⟨hl, hmm⟩ := prm_range_mem p2
        have hb := getD_mem hl hmm v3
        generalize p'.getD iv 0 = x at hb
        have key : ∀ m, x < m → W (7 * iv + x) ≤ sN (fun a => W (7 * iv + a)) m := by
          intro m
          induction m with
          | zero => intro h; omega
          | succ m ihm =>
            intro h
            rw [sN]
            by_cases e3 : x = m
            · subst e3; omega
            · have := ihm (by omega); omega
        exact key n hb
      have b1 : f_X6_takeApart_L1 (nI n) (nI i, nI i, c, e, d, w) = some (.inl (nI (i + 1), nI (i + 1), c1, t', upd d i (nI (numL p')), upd w i (nI v'))) := by
        rw [f_X6_takeApart_L1, if_neg (by rw [show (49 : Int32) = nI 49 from rfl, nI_leI (by omega) (by omega)]; omega), countNotZero_n hn, bs, hcnt, if_neg (nI_nle (by omega) (by omega)), e1, bs, e3, bs, v1, bs, d1, bs, gd_okI (by omega) (by omega), pl_e, gd_okI (by omega) (by omega), pl_e, pl_e, pl_e, nI_1]
        simp (disch := omega) only [nI_clamp]
      have b2 : f_X10_apart_L1 z (nI i, nI s, o, c', d', w') = some (.inl (nI (i + 1), nI (s - v'), o2, c1', upd d' i (nI (numL p')), upd w' i (nI v'))) := by
        rw [f_X10_apart_L1, if_neg (nI_nle (by omega) (by omega)), gd_t (by decide), mz49 hz49, q1, bs, q3, bs, w1, bs, d1', bs, number_n hz49 hn (prm_range_mem p2).1 q4, bs, gd_okI (by omega) (by omega), pl_e, gd_okI (by omega) (by omega), pl_e, show nI s - nI v' = nI (s - v') from pk_sub hvs, pl_e, nI_1, pl_e]
        simp (disch := omega) only [nI_clamp]
      rw [lp_step b1, lp_step b2]
      exact ih (i + 1) (s - v') _ c1 c1' t' _ _ o2 _ _ f1 f2 hN hN' (by omega) (by omega) (by omega) (by omega) (fun j hj => by
        rw [upd_at, upd_at, upd_at, upd_at]
        by_cases e : j = i
        · rw [if_pos e, if_pos e, if_pos e, if_pos e]
          exact ⟨rfl, rfl⟩
        · rw [if_neg e, if_neg e, if_neg e, if_neg e]
          exact hD j (by omega))
theorem nn_nat {z : Nat → Int32} (h : nn z = true) {k : Nat} (hk : k < 49) : z k = nI (z k).toInt.toNat := by
  have := allB_t.mp h k hk
  have h2 : ¬ z k < 0 := by simpa using this
  obtain ⟨j, h3, h4⟩ := nI_of h2
  rw [h4, nI_toInt h3]
  rfl
theorem sI_nat {x : Nat → Int32} {g : Nat → Nat} : ∀ n, (∀ k, k < n → x k = nI (g k)) → sI x n = nI (sN g n) := by
  intro n
  induction n with
  | zero => intro _; rfl
  | succ n ih =>
    intro h
    rw [sI, sN, ih (fun k hk => h k (by omega)), h n (by omega), nI_add]
theorem LK_start {n : Nat} {c z : Nat → Int32} (h : Mx n c z) (ht : TA z n = true) : ∃ s W, LK n s W z ∧ LK n s W c ∧ rowSum z n 0 = nI s := by
  obtain ⟨h1, hn, hc, hz49, h0, hz⟩ := h
  unfold TA at ht
  rw [Bool.and_eq_true, Bool.and_eq_true] at ht
  obtain ⟨⟨t1, -⟩, t2⟩ := ht
  unfold LSb at t1
  rw [allB_t] at t1
  have hW : ∀ k, k < 49 → z k = nI (z k).toInt.toNat := fun k hk => nn_nat t2 hk
  have hb : ∀ k, k < 49 → (z k).toInt.toNat ≤ 20 := fun k hk => by have := hz k hk; omega
  have hr : ∀ r, r < n → rowSum z n r = nI (sN (fun a => (z (7 * r + a)).toInt.toNat) n) := fun r hr => sI_nat n (fun k hk => hW _ (by omega))
  have hq : ∀ a, a < n → colSum z n a = nI (sN (fun r => (z (7 * r + a)).toInt.toNat) n) := fun a ha => sI_nat n (fun k hk => hW _ (by omega))
  have hsm : ∀ (f : Nat → Nat), (∀ k, k < n → f k ≤ 20) → sN f n < 2 ^ 31 := fun f hf => by
    have := sN_le (f := f) (n := n) (c := 20) hf
    have h2 : n * 20 ≤ 7 * 20 := Nat.mul_le_mul_right _ hn
    omega
  have e0 := hr 0 (by omega)
  have base : LK n (sN (fun a => (z (7 * 0 + a)).toInt.toNat) n) (fun k => (z k).toInt.toNat) z := by
    refine ⟨hW, hb, fun r a hr hq hx => by show (z (7 * r + a)).toInt.toNat = 0; rw [h0 r a hr hq hx]; rfl, fun r hrn => ?_, fun a han => ?_⟩
    · have := t1 r hrn
      rw [Bool.and_eq_true] at this
      have e1 := of_decide_eq_true this.1
      rw [hr r hrn, e0] at e1
      exact nI_inj (hsm _ (fun k hk => hb _ (by omega))) (hsm _ (fun k hk => hb _ (by omega))) e1
    · have := t1 a han
      rw [Bool.and_eq_true] at this
      have e1 := of_decide_eq_true this.2
      rw [hq a han, e0] at e1
      exact nI_inj (hsm _ (fun k hk => hb _ (by omega))) (hsm _ (fun k hk => hb _ (by omega))) e1
  exact ⟨_, _, base, ⟨fun k hk => by rw [hc k hk]; exact hW k hk, base.2⟩, e0⟩
theorem LK_congr {n s : Nat} {W : Nat → Nat} {c c' : Nat → Int32} (h : LK n s W c) (hc : ∀ k, k < 49 → c' k = c k) : LK n s W c' := ⟨fun k hk => by rw [hc k hk]; exact h.1 k hk, h.2⟩
theorem apart_n {n : Nat} {c z : Nat → Int32} (h : Mx n c z) (ht : TA z n = true) (tc tls : Int32) (tl te td tw o re d w : Nat → Int32) : ∃ k ls C E D V O C' D' V', k ≤ 49 ∧ f_X6_takeApart tc tls tl te td tw (nI n) c = some (nI k, ls, C, E, D, V) ∧ f_X10_apart z o re d w = some (nI k, O, C', D', V') ∧ ∀ j, j < k → D j = D' j ∧ V j = V' j := by
  obtain ⟨s, W, L1, L2, e0⟩ := LK_start h ht
  obtain ⟨h1, hn, hc, hz49, h0, hz⟩ := h
  obtain ⟨k, C, E, D, V, O, C', D', V', k1, k2, k3, k4⟩ := apart_both hz49 h1 hn 49 0 s W (va_cpy c tl 0 0 49) (va_cpy z re 0 0 49) te td tw o d w FU FU (LK_congr L2 (fun k hk => cpy49 _ _ hk)) (LK_congr L1 (fun k hk => cpy49 _ _ hk)) (cntB_le _ _) (by omega) (FU_lt (by omega)) (FU_lt (by omega)) (fun j hj => absurd hj (by omega))
  refine ⟨k, nI n, C, E, D, V, O, C', D', V', k1, ?_, ?_, k4⟩
  · unfold f_X6_takeApart
    rw [copy_e, bs]
    change lpN _ FU ((0 : Int32), (0 : Int32), va_cpy c tl 0 0 49, te, td, tw) = _ at k2
    dsimp only
    rw [k2, bs]
  · unfold f_X10_apart
    rw [show (0 : Int32) = nI 0 from rfl, sumOfLine_n hz49 (by omega) hn, if_pos (show nI 0 = 0 from rfl), bs, show (49 : Int32) = nI 49 from rfl, copyRow_n (n1 := 50) (n3 := 49) (sp := 0) (dp := 0) (m := 49) _ _ (by omega) (by omega) (by omega) (by omega), bs, e0, k3, bs]
theorem min_cnt {k : Nat} (hk : k ≤ 49) (x : Int32) : f_X10_in x (0 : Int32) (nI k - (1 : Int32)) = some (if x < 0 then 0 else if x < nI k then 1 else 0) := by
  rw [min_n]
  by_cases h : x < 0
  · rw [if_pos h, if_pos h]
  · rw [if_neg h, if_neg h]
    obtain ⟨j, h1, rfl⟩ := nI_of h
    cases k with
    | zero =>
      rw [if_pos (by
        show nI 0 - (1 : Int32) < nI j
        rw [Int32.lt_iff_toInt_lt, nI_toInt h1, show (nI 0 - (1 : Int32)).toInt = -1 by decide]
        omega), if_neg (by rw [nI_ltI h1 (by omega)]; omega)]
    | succ k =>
      rw [nI_sub1 (by omega)]
      by_cases e : j < k + 1
      · rw [if_neg (by rw [nI_ltI (by omega) h1]; omega), if_pos (by rw [nI_ltI h1 (by omega)]; exact e)]
      · rw [if_pos (by rw [nI_ltI (by omega) h1]; omega), if_neg (by rw [nI_ltI h1 (by omega)]; exact e)]
theorem st_parts {n : Nat} {c z : Nat → Int32} (h : Mx n c z) (tc tls : Int32) (tl te td tw o re d w : Nat → Int32) : ∃ r tc' tls' tl' te' td' tw' o' re' d' w', f_X9_parts (nI n) c tc tls tl te td tw = some (r, tc', tls', tl', te', td', tw') ∧ f_X10_parts z o re d w = some (r, o', re', d', w') := by
  unfold f_X9_parts f_X10_parts
  rw [canApart_n h, mcanApart_n h.2.2.2.1 h.1 h.2.1, bs, bs]
  cases ht : TA z n with
  | false => exact ⟨_, _, _, _, _, _, _, _, _, _, _, rfl, rfl⟩
  | true =>
    rw [if_neg (show ¬ b2i true = 0 by decide), if_neg (show ¬ b2i true = 0 by decide)]
    obtain ⟨k, ls, C, E, D, V, O, C', D', V', k1, k2, k3, k4⟩ := apart_n h ht tc tls tl te td tw o re d w
    rw [k2, k3, bs, bs]
    exact ⟨_, _, _, _, _, _, _, _, _, _, _, rfl, rfl⟩
theorem st_part {n : Nat} {c z : Nat → Int32} (h : Mx n c z) (tc tls : Int32) (tl te td tw o re d w : Nat → Int32) (a1 a2 : Int32) : ∃ r tc' tls' tl' te' td' tw' o' re' d' w', f_X9_part (nI n) c tc tls tl te td tw a1 a2 = some (r, tc', tls', tl', te', td', tw') ∧ f_X10_part z o re d w a1 a2 = some (r, o', re', d', w') := by
  unfold f_X9_part f_X10_part
  rw [canApart_n h, mcanApart_n h.2.2.2.1 h.1 h.2.1, bs, bs]
  cases ht : TA z n with
  | false => exact ⟨_, _, _, _, _, _, _, _, _, _, _, rfl, rfl⟩
  | true =>
    rw [if_neg (show ¬ b2i true = 0 by decide), if_neg (show ¬ b2i true = 0 by decide)]
    obtain ⟨k, ls, C, E, D, V, O, C', D', V', k1, k2, k3, k4⟩ := apart_n h ht tc tls tl te td tw o re d w
    rw [k2, k3, bs, bs]
    dsimp only
    rw [min_cnt k1, bs]
    by_cases hx : a1 < 0
    · rw [if_pos hx, if_pos hx, if_pos rfl]
      exact ⟨_, _, _, _, _, _, _, _, _, _, _, rfl, rfl⟩
    · rw [if_neg hx, if_neg hx]
      unfold f_X6_count
      rw [bs]
      by_cases hlt : a1 < nI k
      · obtain ⟨j, j1, rfl⟩ := nI_of hx
        have hjk : j < k := (nI_ltI j1 (by omega)).mp hlt
        obtain ⟨q1, q2⟩ := k4 j hjk
        have g1 : f_X6_diagonal (nI k) D (nI j) = some (D j) := by
          unfold f_X6_diagonal
          rw [if_neg hx, if_neg (show ¬ nI k ≤ nI j by rw [nI_leI (by omega) (by omega)]; omega), if_neg (show ¬ (49 : Int32) ≤ nI j by rw [show (49 : Int32) = nI 49 from rfl, nI_leI (by omega) (by omega)]; omega), gd_okI (by omega) (by omega), nI_clamp j1]
        have g2 : f_X6_weight (nI k) V (nI j) = some (V j) := by
          unfold f_X6_weight
          rw [if_neg hx, if_neg (show ¬ nI k ≤ nI j by rw [nI_leI (by omega) (by omega)]; omega), if_neg (show ¬ (49 : Int32) ≤ nI j by rw [show (49 : Int32) = nI 49 from rfl, nI_leI (by omega) (by omega)]; omega), gd_okI (by omega) (by omega), nI_clamp j1]
        rw [if_pos hlt, if_pos hlt, if_neg (show ¬ (1 : Int32) = 0 by decide), g1, g2, q1, q2]
        simp (disch := omega) only [gd_okI, nI_clamp, bs]
        by_cases h2 : a2 = 0
        · rw [if_pos h2, if_pos h2]
          exact ⟨_, _, _, _, _, _, _, _, _, _, _, rfl, rfl⟩
        · rw [if_neg h2, if_neg h2]
          exact ⟨_, _, _, _, _, _, _, _, _, _, _, rfl, rfl⟩
      · rw [if_neg hlt, if_neg hlt, if_pos rfl]
        exact ⟨_, _, _, _, _, _, _, _, _, _, _, rfl, rfl⟩
