/-! MATHEMATICS: the model's next order -/
theorem nI_sub2 {m : Nat} (h : 2 ≤ m) : nI m - (2 : Int32) = nI (m - 2) := pk_sub h
theorem nI_sub1 {m : Nat} (h : 1 ≤ m) : nI m - (1 : Int32) = nI (m - 1) := pk_sub h
theorem exchange_n {i j : Nat} (hi : i < 7) (hj : j < 7) (o : Nat → Int32) : f_X10_exchange o (nI i) (nI j) = some (upd (upd o i (o j)) j (o i)) := by
  unfold f_X10_exchange
  simp (disch := omega) only [lit32, bs, pl_e, gd_okI, nI_leI, nI_ltI, nI_eq, nI_add, pk_mul, pk_sub, nI_m1', nI_clamp, if_pos, if_neg, ↓reduceIte]
theorem first_n {m : Nat} (hm : m ≤ 7) (o : Nat → Int32) : ∃ o', f_X10_firstOrder o (nI m) = some o' ∧ Od o' (List.range m) := by
  refine ⟨fun k => if k < m then nI k else o k, ?_, ?_⟩
  · unfold f_X10_firstOrder
    have hl : lpN (f_X10_firstOrder_L1 (nI m)) FU ((0 : Int32), o) = some (fun k => if k < m then nI k else o k) := by
      have h := lp_run (body := f_X10_firstOrder_L1 (nI m)) (fun j => (nI j, fun k => if k < j then nI k else o k)) m (fun k => if k < m then nI k else o k) (fun j hj => by
        rw [f_X10_firstOrder_L1]
        simp (disch := omega) only [lit32, bs, pl_e, gd_okI, nI_leI, nI_ltI, nI_eq, nI_add, pk_mul, pk_sub, nI_m1', nI_clamp, if_pos, if_neg, ↓reduceIte]
        congr 4
        funext k
        unfold upd
        by_cases e : k = j
        · subst e; simp
        · rw [if_neg e]
          by_cases e2 : k < j
          · show (if k < j then nI k else o k) = if k < j + 1 then nI k else o k
            rw [if_pos e2, if_pos (by omega)]
          · show (if k < j then nI k else o k) = if k < j + 1 then nI k else o k
            rw [if_neg e2, if_neg (by omega)]) (by
        rw [f_X10_firstOrder_L1]
        simp (disch := omega) only [lit32, bs, pl_e, gd_okI, nI_leI, nI_ltI, nI_eq, nI_add, pk_mul, pk_sub, nI_m1', nI_clamp, if_pos, if_neg, ↓reduceIte]) (FU_lt (by omega))
      simp only [Nat.not_lt_zero, if_false] at h
      exact h
    rw [hl]
    rfl
  · intro i v h
    rw [List.getElem?_eq_some_iff] at h
    obtain ⟨hi, h⟩ := h
    rw [List.length_range] at hi
    rw [List.getElem_range] at h
    show (if i < m then nI i else o i) = nI v
    rw [if_pos hi, h]
theorem rev_n {lo hi : Nat} (h1 : lo ≤ hi) (h2 : hi < 7) (o : Nat → Int32) : lpN f_X10_nextOrder_L3 FU (nI lo, nI hi, o) = some (fun k => if lo ≤ k ∧ k ≤ hi then o (lo + hi - k) else o k) := by
  have h := lp_run (body := f_X10_nextOrder_L3) (fun j => (nI (lo + j), nI (hi - j), fun k => if (lo ≤ k ∧ k < lo + j) ∨ (hi < k + j ∧ k ≤ hi) then o (lo + hi - k) else o k)) ((hi - lo + 1) / 2) (fun k => if lo ≤ k ∧ k ≤ hi then o (lo + hi - k) else o k) (fun j hj => by
    rw [f_X10_nextOrder_L3]
    rw [exchange_n (by omega) (by omega)]
    simp (disch := omega) only [lit32, bs, pl_e, gd_okI, nI_leI, nI_ltI, nI_eq, nI_add, pk_mul, pk_sub, nI_m1', nI_clamp, if_pos, if_neg, ↓reduceIte]
    congr 4
    funext k
    unfold upd
    by_cases e : k = hi - j
    · subst e
      rw [if_pos rfl, if_pos (by omega)]
      congr 1
      omega
    · rw [if_neg e]
      by_cases e2 : k = lo + j
      · subst e2
        rw [if_pos rfl, if_pos (by omega)]
        congr 1
        omega
      · rw [if_neg e2]
        dsimp only
        by_cases e3 : (lo ≤ k ∧ k < lo + j) ∨ (hi < k + j ∧ k ≤ hi)
        · rw [if_pos e3, if_pos (by omega)]
        · rw [if_neg e3, if_neg (by omega)]) (by
    rw [f_X10_nextOrder_L3]
    simp (disch := omega) only [lit32, bs, pl_e, gd_okI, nI_leI, nI_ltI, nI_eq, nI_add, pk_mul, pk_sub, nI_m1', nI_clamp, if_pos, if_neg, ↓reduceIte]
    congr 2
    funext k
    by_cases e : lo ≤ k ∧ k ≤ hi
    · rw [if_pos e]
      by_cases e3 : (lo ≤ k ∧ k < lo + (hi - lo + 1) / 2) ∨ (hi < k + (hi - lo + 1) / 2 ∧ k ≤ hi)
      · rw [if_pos e3]
      · rw [if_neg e3]
        congr 1
        omega
    · rw [if_neg e, if_neg (by omega)]) (FU_lt (by omega))
  have e0 : (fun k => if (lo ≤ k ∧ k < lo + 0) ∨ (hi < k + 0 ∧ k ≤ hi) then o (lo + hi - k) else o k) = o := by
    funext k
    rw [if_neg (by omega)]
  simp only [e0] at h
  exact h
theorem down_n {m c : Nat} (h2 : 2 ≤ m) (h7 : m ≤ 7) (hc1 : 1 ≤ c) (hc : c + 1 ≤ m) {o : Nat → Int32} (hd : ∀ i, c ≤ i → i + 1 < m → ¬ o i ≤ o (i + 1)) (he : o (c - 1) ≤ o c) : lpN (f_X10_nextOrder_L1 o) FU (nI m - 2) = some (nI (c - 1)) := by
  have h := lp_run (body := f_X10_nextOrder_L1 o) (fun k => nI (m - 2 - k)) (m - 1 - c) (nI (c - 1)) (fun k hk => by
    rw [f_X10_nextOrder_L1]
    have h1 := hd (m - 2 - k) (by omega) (by omega)
    rw [show m - 2 - k + 1 = m - 1 - k by omega] at h1
    simp (disch := omega) only [lit32, bs, pl_e, gd_okI, nI_leI, nI_ltI, nI_eq, nI_add, pk_mul, pk_sub, nI_m1', nI_clamp, if_pos, if_neg, ↓reduceIte]
    rw [show m - 2 - k + 1 = m - 1 - k by omega, if_neg h1, show m - 2 - k - 1 = m - 2 - (k + 1) by omega]) (by
    rw [f_X10_nextOrder_L1]
    simp (disch := omega) only [lit32, bs, pl_e, gd_okI, nI_leI, nI_ltI, nI_eq, nI_add, pk_mul, pk_sub, nI_m1', nI_clamp, if_pos, if_neg, ↓reduceIte]
    rw [show m - 2 - (m - 1 - c) = c - 1 by omega, show c - 1 + 1 = c by omega, if_pos he]) (FU_lt (by omega))
  rw [nI_sub2 (show 2 ≤ m by omega)]
  exact h
theorem down_all {m : Nat} (h7 : m ≤ 7) {o : Nat → Int32} (hd : ∀ i, i + 1 < m → ¬ o i ≤ o (i + 1)) : ∃ y : Int32, lpN (f_X10_nextOrder_L1 o) FU (nI m - 2) = some y ∧ y < 0 := by
  by_cases h0 : m = 0
  · subst h0
    have : f_X10_nextOrder_L1 o (nI 0 - 2) = some (.inr (nI 0 - 2)) := by rw [f_X10_nextOrder_L1, if_pos (by decide)]
    exact ⟨_, lp_FUe this, by decide⟩
  · refine ⟨-1, ?_, by decide⟩
    have h := lp_run (body := f_X10_nextOrder_L1 o) (fun k => if k < m - 1 then nI (m - 2 - k) else -1) (m - 1) (-1) (fun k hk => by
      rw [if_pos hk, f_X10_nextOrder_L1]
      have h1 := hd (m - 2 - k) (by omega)
      rw [show m - 2 - k + 1 = m - 1 - k by omega] at h1
      by_cases e : k + 1 < m - 1
      · rw [if_pos e]
        simp (disch := omega) only [lit32, bs, pl_e, gd_okI, nI_leI, nI_ltI, nI_eq, nI_add, pk_mul, pk_sub, nI_m1', nI_clamp, if_pos, if_neg, ↓reduceIte]
        rw [show m - 2 - k + 1 = m - 1 - k by omega, if_neg h1, show m - 2 - k - 1 = m - 2 - (k + 1) by omega]
      · rw [if_neg e]
        rw [show m - 2 - k = 0 by omega] at h1 ⊢
        rw [show m - 1 - k = 1 by omega] at h1
        rw [if_neg (by decide), gd_t (by decide), gd_t (by decide), show (nI 0).toNatClampNeg = 0 from rfl, show (nI 0 + 1 : Int32).toNatClampNeg = 1 from rfl, if_neg h1]
        rfl) (by
      rw [if_neg (by omega), f_X10_nextOrder_L1, if_pos (by decide)]) (FU_lt (by omega))
    by_cases h1 : m = 1
    · subst h1
      exact h
    · rw [if_pos (by omega)] at h
      rw [nI_sub2 (show 2 ≤ m by omega)]
      exact h
theorem Od.at {o : Nat → Int32} {p : List Nat} (h : Od o p) {i : Nat} (hi : i < p.length) : o i = nI p[i] := h i _ (List.getElem?_eq_getElem hi)
theorem next_last {m : Nat} {p : List Nat} {o : Nat → Int32} (hm : p.length = m) (h7 : m ≤ 7) (hv : ∀ v ∈ p, v < 7) (ho : Od o p) (hd : p.Pairwise (fun a b => b < a)) : f_X10_nextOrder o (nI m) = some (0, o) := by
  unfold f_X10_nextOrder
  obtain ⟨y, hy, hy0⟩ := down_all (m := m) h7 (o := o) (fun i hi => by
    subst hm
    rw [ho.at (show i < p.length by omega), ho.at hi]
    have h1 := List.pairwise_iff_getElem.mp hd i (i + 1) (by omega) hi (by omega)
    have h2 := hv _ (List.getElem_mem (show i < p.length by omega))
    rw [nI_leI (by omega) (by omega)]
    omega)
  rw [pl_e, hy, bs, if_neg (fun hc => absurd hy0 (Int32_not_lt_of_le hc))]
theorem next_some {m : Nat} {p q : List Nat} {o : Nat → Int32} (hm : p.length = m) (h7 : m ≤ 7) (hv : ∀ v ∈ p, v < 7) (ho : Od o p) (hn : Nx p q) : ∃ o', f_X10_nextOrder o (nI m) = some (1, o') ∧ Od o' q := by
  obtain ⟨pre, x, d1, y, d2, rfl, hd, hxy, hlt, rfl⟩ := hn
  have hx : pre.length < (pre ++ x :: (d1 ++ y :: d2)).length := by simp
  have hlen : m = pre.length + 1 + d1.length + 1 + d2.length := by rw [← hm]; simp; omega
  -- what stands where
  have g1 : ∀ i (hi : i < (d1 ++ y :: d2).length), o (pre.length + 1 + i) = nI (d1 ++ y :: d2)[i] := by
    intro i hi
    refine ho _ _ ?_
    rw [List.getElem?_append_right (by omega), show pre.length + 1 + i - pre.length = i + 1 by omega, List.getElem?_cons_succ]
    exact List.getElem?_eq_getElem hi
  have g2 : o pre.length = nI x := ho _ _ (by rw [List.getElem?_append_right (by omega)]; simp)
  have hvx : x < 7 := hv x (by simp)
  have hvd : ∀ v ∈ d1 ++ y :: d2, v < 7 := fun v h => hv v (by
    rw [List.mem_append]
    exact Or.inr (List.mem_cons_of_mem _ h))
  have hL : (d1 ++ y :: d2).length = d1.length + 1 + d2.length := by simp; omega
  have hdi : ∀ i j (hi : i < (d1 ++ y :: d2).length) (hj : j < (d1 ++ y :: d2).length), i < j → (d1 ++ y :: d2)[j] < (d1 ++ y :: d2)[i] := fun i j hi hj h => List.pairwise_iff_getElem.mp hd i j hi hj h
  have hy1 : (d1 ++ y :: d2)[d1.length]'(by omega) = y := by simp
  have hvy : y < 7 := hvd y (by simp)
  have h0 : x ≤ (d1 ++ y :: d2)[0]'(by omega) := by
    by_cases e : d1.length = 0
    · have : d1 = [] := List.length_eq_zero_iff.mp e
      subst this
      simp
      omega
    · have := hdi 0 d1.length (by omega) (by omega) (by omega)
      omega
  have hdn := down_n (m := m) (c := pre.length + 1) (by omega) h7 (by omega) (by omega) (o := o) (fun i h1 h2 => by
    have e1 := g1 (i - (pre.length + 1)) (by omega)
    have e2 := g1 (i + 1 - (pre.length + 1)) (by omega)
    rw [show pre.length + 1 + (i - (pre.length + 1)) = i by omega] at e1
    rw [show pre.length + 1 + (i + 1 - (pre.length + 1)) = i + 1 by omega] at e2
    have e3 := hdi (i - (pre.length + 1)) (i + 1 - (pre.length + 1)) (by omega) (by omega) (by omega)
    have e4 := hvd _ (List.getElem_mem (show i - (pre.length + 1) < (d1 ++ y :: d2).length by omega))
    rw [e1, e2, nI_leI (by omega) (by omega)]
    omega) (by
    have e1 := g1 0 (by omega)
    have e4 := hvd _ (List.getElem_mem (show 0 < (d1 ++ y :: d2).length by omega))
    rw [show pre.length + 1 + 0 = pre.length + 1 by omega] at e1
    rw [show pre.length + 1 - 1 = pre.length by omega, g2, e1, nI_leI (by omega) (by omega)]
    exact h0)
  rw [show pre.length + 1 - 1 = pre.length by omega] at hdn
  have hl2 : lpN (f_X10_nextOrder_L2 (nI pre.length) o) FU (nI (m - 1)) = some (nI (pre.length + 1 + d1.length)) := by
    have h := lp_run (body := f_X10_nextOrder_L2 (nI pre.length) o) (fun k => nI (m - 1 - k)) d2.length (nI (pre.length + 1 + d1.length)) (fun k hk => by
      rw [f_X10_nextOrder_L2]
      have e1 := g1 (d1.length + 1 + (d2.length - 1 - k)) (by omega)
      have e2 : (d1 ++ y :: d2)[d1.length + 1 + (d2.length - 1 - k)]'(by omega) = d2[d2.length - 1 - k]'(by omega) := by
        rw [List.getElem_append_right (by omega)]
        simp only [show d1.length + 1 + (d2.length - 1 - k) - d1.length = (d2.length - 1 - k) + 1 by omega, List.getElem_cons_succ]
      have e3 := hlt _ (List.getElem_mem (show d2.length - 1 - k < d2.length by omega))
      rw [e2] at e1
      rw [show pre.length + 1 + (d1.length + 1 + (d2.length - 1 - k)) = m - 1 - k by omega] at e1
      simp (disch := omega) only [lit32, bs, pl_e, gd_okI, nI_leI, nI_ltI, nI_eq, nI_add, pk_mul, pk_sub, nI_m1', nI_clamp, if_pos, if_neg, ↓reduceIte]
      rw [g2, e1, if_neg (by rw [nI_leI (by omega) (by omega)]; omega), show m - 1 - k - 1 = m - 1 - (k + 1) by omega]) (by
      rw [f_X10_nextOrder_L2]
      have e1 := g1 d1.length (by omega)
      rw [hy1] at e1
      simp (disch := omega) only [lit32, bs, pl_e, gd_okI, nI_leI, nI_ltI, nI_eq, nI_add, pk_mul, pk_sub, nI_m1', nI_clamp, if_pos, if_neg, ↓reduceIte]
      rw [show m - 1 - d2.length = pre.length + 1 + d1.length by omega, g2, e1, if_pos (by rw [nI_leI (by omega) (by omega)]; omega)]) (FU_lt (by omega))
    exact h
  refine ⟨fun k => if pre.length + 1 ≤ k ∧ k ≤ m - 1 then upd (upd o pre.length (o (pre.length + 1 + d1.length))) (pre.length + 1 + d1.length) (o pre.length) (pre.length + 1 + (m - 1) - k) else upd (upd o pre.length (o (pre.length + 1 + d1.length))) (pre.length + 1 + d1.length) (o pre.length) k, ?_, ?_⟩
  · unfold f_X10_nextOrder
    rw [pl_e, hdn, bs, if_pos (by rw [show (0 : Int32) = nI 0 from rfl, nI_leI (by omega) (by omega)]; omega), pl_e, nI_sub1 (show 1 ≤ m by omega), hl2, bs, exchange_n (by omega) (by omega), bs, pl_e, pl_e, show nI pre.length + (1 : Int32) = nI (pre.length + 1) from nI_add _ _, rev_n (by omega) (by omega), bs]
  · intro i v hiv
    by_cases c1 : i < pre.length
    · rw [List.getElem?_append_left c1] at hiv
      have := ho i v (by rw [List.getElem?_append_left c1]; exact hiv)
      show (if _ then _ else _) = _
      rw [if_neg (by omega)]
      unfold upd
      rw [if_neg (by omega), if_neg (by omega)]
      exact this
    · rw [List.getElem?_append_right (by omega)] at hiv
      by_cases c2 : i = pre.length
      · subst c2
        rw [Nat.sub_self, List.getElem?_cons_zero] at hiv
        obtain rfl := Option.some.inj hiv
        have e1 := g1 d1.length (by omega)
        rw [hy1] at e1
        show (if _ then _ else _) = _
        rw [if_neg (by omega)]
        unfold upd
        rw [if_neg (by omega), if_pos rfl]
        exact e1
      · rw [show i - pre.length = (i - pre.length - 1) + 1 by omega, List.getElem?_cons_succ] at hiv
        have hlt2 := (List.getElem?_eq_some_iff.mp hiv).1
        rw [List.length_reverse] at hlt2
        have hL2 : (d1 ++ x :: d2).length = d1.length + 1 + d2.length := by simp; omega
        rw [List.getElem?_reverse hlt2, hL2] at hiv
        show (if _ then _ else _) = _
        rw [if_pos (by omega), show pre.length + 1 + (m - 1) - i = pre.length + 1 + (d1.length + 1 + d2.length - 1 - (i - pre.length - 1)) by omega]
        unfold upd
        generalize hj : d1.length + 1 + d2.length - 1 - (i - pre.length - 1) = j at hiv
        have hjl : j < d1.length + 1 + d2.length := by omega
        by_cases c3 : j = d1.length
        · subst c3
          rw [List.getElem?_append_right (by omega), Nat.sub_self, List.getElem?_cons_zero] at hiv
          obtain rfl := Option.some.inj hiv
          rw [if_pos rfl]
          exact g2
        · rw [if_neg (by omega), if_neg (by omega)]
          refine ho _ _ ?_
          rw [List.getElem?_append_right (by omega), show pre.length + 1 + j - pre.length = j + 1 by omega, List.getElem?_cons_succ]
          rw [← hiv]
          by_cases c4 : j < d1.length
          · rw [List.getElem?_append_left c4, List.getElem?_append_left c4]
          · rw [List.getElem?_append_right (by omega), List.getElem?_append_right (by omega), show j - d1.length = (j - d1.length - 1) + 1 by omega, List.getElem?_cons_succ, List.getElem?_cons_succ]
/-- a loop through all orders -/
theorem lp_perm {σ ρ β γ : Type} {body : σ → Option (σ ⊕ ρ)} {m : Nat} (h7 : m ≤ 7) (R : β → Int32 → (Nat → Int32) → σ) (g : β → List Nat → β ⊕ γ) (rb : β → (Nat → Int32) → ρ) (rc : γ → (Nat → Int32) → ρ)
    (hl : ∀ b p o b', p.length = m → (∀ v ∈ p, v < 7) → Od o p → g b p = .inl b' → body (R b 1 o) = (f_X10_nextOrder o (nI m)).bind (fun y => some (.inl (R b' y.1 y.2))))
    (hr : ∀ b p o c, p.length = m → (∀ v ∈ p, v < 7) → Od o p → g b p = .inr c → body (R b 1 o) = some (.inr (rc c o)))
    (he : ∀ b o, body (R b 0 o) = some (.inr (rb b o))) :
    ∀ (L : List (List Nat)) (p z : List Nat), Pth p L z → (∀ q ∈ L, q.length = m ∧ ∀ v ∈ q, v < 7) → z.Pairwise (fun a b => b < a) → ∀ (b : β) (o : Nat → Int32) (fuel : Nat), Od o p → L.length < fuel → ∃ o', lpN body fuel (R b 1 o) = some (match foldE g L b with | .inl b' => rb b' o' | .inr c => rc c o') := by
  intro L
  induction L with
  | nil => intro p z h; exact h.elim
  | cons a L ih =>
    intro p z h hq hz b o fuel ho hf
    obtain ⟨rfl, h⟩ := h
    obtain ⟨ha1, ha2⟩ := hq a List.mem_cons_self
    cases fuel with
    | zero => omega
    | succ f =>
      cases hg : g b a with
      | inr c =>
        refine ⟨o, ?_⟩
        rw [lp_end (hr b a o c ha1 ha2 ho hg), foldE, hg]
      | inl b' =>
        have hb := hl b a o b' ha1 ha2 ho hg
        rcases h with ⟨rfl, rfl⟩ | ⟨q, h1, h2⟩
        · rw [next_last ha1 h7 ha2 ho hz] at hb
          rw [lp_step hb, foldE, hg]
          cases f with
          | zero => simp at hf
          | succ f =>
            exact ⟨o, lp_end (he b' o)⟩
        · obtain ⟨o', h3, h4⟩ := next_some ha1 h7 ha2 ho h1
          rw [h3] at hb
          rw [lp_step hb, foldE, hg]
          exact ih q z h2 (fun r hr => hq r (List.mem_cons_of_mem _ hr)) hz b' o' f h4 (by simp at hf; omega)
/-- and from the first one on -/
theorem lp_perms {σ ρ β γ : Type} {body : σ → Option (σ ⊕ ρ)} {m : Nat} (h7 : m ≤ 7) (R : β → Int32 → (Nat → Int32) → σ) (g : β → List Nat → β ⊕ γ) (rb : β → (Nat → Int32) → ρ) (rc : γ → (Nat → Int32) → ρ)
    (hl : ∀ b p o b', p.length = m → (∀ v ∈ p, v < 7) → Od o p → g b p = .inl b' → body (R b 1 o) = (f_X10_nextOrder o (nI m)).bind (fun y => some (.inl (R b' y.1 y.2))))
    (hr : ∀ b p o c, p.length = m → (∀ v ∈ p, v < 7) → Od o p → g b p = .inr c → body (R b 1 o) = some (.inr (rc c o)))
    (he : ∀ b o, body (R b 0 o) = some (.inr (rb b o))) (b : β) (o : Nat → Int32) (ho : Od o (List.range m)) : ∃ o', lpN body FU (R b 1 o) = some (match foldE g (prm m (List.range m)) b with | .inl b' => rb b' o' | .inr c => rc c o') := by
  have hs : (List.range m).Pairwise (fun a b => a < b) := List.pairwise_lt_range
  refine lp_perm h7 R g rb rc hl hr he (prm m (List.range m)) (List.range m) (List.range m).reverse (prm_path m _ List.length_range hs) ?_ ?_ b o FU ho (FU_lt ?_)
  · intro q hq
    have := prm_perm m _ List.length_range q hq
    refine ⟨by rw [this.length_eq, List.length_range], fun v hv => ?_⟩
    have := List.mem_range.mp (this.mem_iff.mp hv)
    omega
  · rw [List.pairwise_reverse]
    exact hs
  · rw [prm_len m _ List.length_range]
    have := fct_le h7
    omega
