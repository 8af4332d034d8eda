/-! MATHEMATICS, part g: changes (clear, set, exchanges, turning, multiplying, keep, restore, undo) -/
theorem lp_cntE {α ρ : Type} {body : Int32 × α → Option ((Int32 × α) ⊕ ρ)} (I : Nat → α → Prop) (N : Nat) (Q : ρ → Prop) (hs : ∀ j a, j < N → I j a → ∃ a', body (nI j, a) = some (.inl (nI (j + 1), a')) ∧ I (j + 1) a') (he : ∀ a, I N a → ∃ r, body (nI N, a) = some (.inr r) ∧ Q r) (a0 : α) (h0 : I 0 a0) (hN : N < 1000) : ∃ r, lpN body FU (nI 0, a0) = some r ∧ Q r := by
  refine lp_inv (body := body) (fun s => ∃ j a, s = (nI j, a) ∧ j ≤ N ∧ I j a) (fun s => N - s.1.toNatClampNeg) Q ?_ FU _ ⟨0, a0, rfl, Nat.zero_le _, h0⟩ (FU_lt (by show N - _ < 100000; omega))
  rintro s ⟨j, a, rfl, hj, hI⟩
  by_cases e : j = N
  · subst e
    right
    exact he a hI
  · left
    obtain ⟨a', h1, h2⟩ := hs j a (by omega) hI
    refine ⟨_, h1, ⟨j + 1, a', rfl, by omega, h2⟩, ?_⟩
    show N - (nI (j + 1)).toNatClampNeg < N - (nI j).toNatClampNeg
    rw [nI_clamp (by omega), nI_clamp (by omega)]
    omega
theorem ix49 {c z : Nat → Int32} (h : ∀ r q, r < 7 → q < 7 → c (7 * r + q) = z (7 * r + q)) : ∀ k, k < 49 → c k = z k := fun k hk => by
  have := h (k / 7) (k % 7) (by omega) (Nat.mod_lt _ (by omega))
  rw [show 7 * (k / 7) + k % 7 = k by omega] at this
  exact this
theorem Mx_perm {n : Nat} {m z nc z2 : Nat → Int32} (h : Mx n m z) (s1 s2 : Nat → Nat → Nat) (hs : ∀ r q, r < 7 → q < 7 → s1 r q < 7 ∧ s2 r q < 7 ∧ ((n ≤ r ∨ n ≤ q) → (n ≤ s1 r q ∨ n ≤ s2 r q)))
    (hnc : ∀ r q, r < 7 → q < 7 → nc (7 * r + q) = z (7 * s1 r q + s2 r q)) (hz2 : ∀ r q, r < 7 → q < 7 → z2 (7 * r + q) = z (7 * s1 r q + s2 r q)) (h49 : z2 49 = nI n) : Mx n nc z2 := by
  obtain ⟨h1, h7, hc, hz, h0, hb⟩ := h
  refine ⟨h1, h7, ix49 (fun r q hr hq => by rw [hnc r q hr hq, hz2 r q hr hq]), h49, fun r q hr hq hx => ?_, fun k hk => ?_⟩
  · obtain ⟨a, b, c⟩ := hs r q hr hq
    rw [hz2 r q hr hq]
    exact h0 _ _ a b (c hx)
  · have := hz2 (k / 7) (k % 7) (by omega) (Nat.mod_lt _ (by omega))
    rw [show 7 * (k / 7) + k % 7 = k by omega] at this
    rw [this]
    obtain ⟨a, b, c⟩ := hs (k / 7) (k % 7) (by omega) (Nat.mod_lt _ (by omega))
    exact hb _ (by omega)
theorem upd_at (f : Nat → Int32) (k : Nat) (x : Int32) (j : Nat) : upd f k x j = if j = k then x else f j := rfl
theorem Mx_upd {n i j : Nat} {m z nc : Nat → Int32} (h : Mx n m z) (hi : i < n) (hj : j < n) (hc : ∀ k, k < 49 → nc k = m k) {x : Int32} (hx : -20 ≤ x.toInt ∧ x.toInt ≤ 20) : Mx n (upd nc (7 * i + j) x) (upd z (7 * i + j) x) := by
  obtain ⟨h1, h7, hcz, hz, h0, hb⟩ := h
  refine ⟨h1, h7, fun k hk => ?_, ?_, fun r q hr hq hx => ?_, fun k hk => ?_⟩
  · rw [upd_at, upd_at]
    split
    · rfl
    · rw [hc k hk, hcz k hk]
  · rw [upd_at, if_neg (by omega)]; exact hz
  · rw [upd_at, if_neg (by omega)]; exact h0 r q hr hq hx
  · rw [upd_at]
    split
    · exact hx
    · exact hb k hk
/-! the desk's and the model's changes of state -/
theorem chgNext_n {n n2 o c : Nat} {S : Nat → Int32} {C : Nat → Nat → Int32} {past m z nc : Nat → Int32} (hM : Mx n m z) (hH : HI o c S C past) :
    ∃ o' c' S' C' past' m', f_X9_changeToNext (nI n) m (nI n2) nc (nI o) (nI c) (S 0) (C 0) (S 1) (C 1) (S 2) (C 2) (S 3) (C 3) = some (nI n2, m', nI o', nI c', S' 0, C' 0, S' 1, C' 1, S' 2, C' 2, S' 3, C' 3) ∧ (∀ row, (∀ k, k < 50 → row k = z k) → f_X10_recordRow 50 (nI c) past row = some (nI c', past')) ∧ f_X10_record (nI c) z past = some (nI c', past') ∧ HI o' c' S' C' past' ∧ ∀ k, k < 49 → m' k = nc k := by
  obtain ⟨o', c', S', C', past', h1, h2, h3⟩ := record_n hH hM
  refine ⟨o', c', S', C', past', va_cpy nc m 0 0 49, ?_, ?_, ?_, h3, fun k hk => cpy49 _ _ hk⟩
  · unfold f_X9_changeToNext
    rw [h1, bs]
    simp only [copy_e, bs]
  · intro row hrow
    rw [← h2]
    have e : ∀ (p : Nat → Int32) (j : Nat), va_cpy row p 0 (50 * j) 50 = va_cpy z p 0 (50 * j) 50 := fun p j => by
      funext k
      unfold va_cpy
      by_cases hk : 50 * j ≤ k ∧ k < 50 * j + 50
      · rw [if_pos hk, if_pos hk, hrow _ (by omega)]
      · rw [if_neg hk, if_neg hk]
    have hc := hH.2.1
    unfold f_X10_recordRow
    by_cases hc4 : c = 4
    · subst hc4
      have hd := copyDown_n past
      simp only [lit32] at hd
      simp (disch := omega) only [lit32, bs, pl_e, gd_okI, nI_leI, nI_ltI, nI_eq, nI_add, pk_mul, pk_sub, nI_m1', nI_clamp, if_pos, if_neg, ↓reduceIte]
      rw [hd]
      simp (disch := omega) only [lit32, bs, pl_e, gd_okI, nI_leI, nI_ltI, nI_eq, nI_add, pk_mul, pk_sub, nI_m1', nI_clamp, if_pos, if_neg, ↓reduceIte]
      rw [copyRow_n (n1 := 50) (n3 := 200) (sp := 0) (dp := 50 * (4 - 1)) (m := 50) _ _ (by omega) (by omega) (by omega) (by omega), copyRow_n (n1 := 50) (n3 := 200) (sp := 0) (dp := 50 * (4 - 1)) (m := 50) _ _ (by omega) (by omega) (by omega) (by omega), e]
    · simp (disch := omega) only [lit32, bs, pl_e, gd_okI, nI_leI, nI_ltI, nI_eq, nI_add, pk_mul, pk_sub, nI_m1', nI_clamp, if_pos, if_neg, ↓reduceIte]
      rw [copyRow_n (n1 := 50) (n3 := 200) (sp := 0) (dp := 50 * c) (m := 50) _ _ (by omega) (by omega) (by omega) (by omega), copyRow_n (n1 := 50) (n3 := 200) (sp := 0) (dp := 50 * c) (m := 50) _ _ (by omega) (by omega) (by omega) (by omega), e]
  · unfold f_X10_record
    rw [h2, bs]
def dn (a b : Nat → Int32) (k : Nat) : Bool := decide (¬ a k = b k)
def cntP (P : Nat → Bool) (n : Nat) : Nat → Nat
  | 0 => 0
  | r + 1 => cntP P n r + cntB (fun q => P (7 * r + q)) n
theorem cntP_all {P : Nat → Bool} {n : Nat} (hn : n ≤ 7) (h0 : ∀ r q, r < 7 → q < 7 → (n ≤ r ∨ n ≤ q) → P (7 * r + q) = false) : cntP P n n = cntB P 49 := by
  have h1 : ∀ r, r ≤ 7 → cntP P 7 r = cntP P n r := by
    intro r
    induction r with
    | zero => intro _; rfl
    | succ r ih =>
      intro hr
      rw [cntP, cntP, ih (by omega), cntB_tail hn (fun k h1 h2 => h0 r k (by omega) h2 (Or.inr h1))]
  have h2 : ∀ d, n + d ≤ 7 → cntP P n (n + d) = cntP P n n := by
    intro d
    induction d with
    | zero => intro _; rfl
    | succ d ih =>
      intro hd
      rw [← Nat.add_assoc, cntP, ih (by omega), cntB_false (fun k hk => h0 (n + d) k (by omega) (by omega) (Or.inl (by omega))), Nat.add_zero]
  have h3 : ∀ r, cntP P 7 r = cntB P (7 * r) := by
    intro r
    induction r with
    | zero => rfl
    | succ r ih => rw [cntP, ih, Nat.mul_add, Nat.mul_one, cntB_add]
  rw [← h2 (7 - n) (by omega), show n + (7 - n) = 7 by omega, ← h1 7 (by omega), h3]
theorem cntB_le (P : Nat → Bool) (n : Nat) : cntB P n ≤ n := by
  induction n with
  | zero => exact Nat.le_refl _
  | succ n ih => rw [cntB]; split <;> omega
theorem cntB_zero {P : Nat → Bool} {n : Nat} (h : cntB P n = 0) : ∀ k, k < n → P k = false := by
  induction n with
  | zero => intro k hk; omega
  | succ n ih =>
    rw [cntB] at h
    intro k hk
    by_cases e : k = n
    · subst e
      cases hp : P k with
      | false => rfl
      | true => rw [hp] at h; simp at h
    · exact ih (by omega) k (by omega)
theorem countUnlike_n {n : Nat} (hn : n ≤ 7) (a b : Nat → Int32) : f_X4_countUnlike (nI n) a (nI n) b = some (nI (cntP (dn a b) n n)) := by
  unfold f_X4_countUnlike
  have h := lp_cnt (body := f_X4_countUnlike_L1 (nI n) a (nI n) b) (fun r => nI (cntP (dn a b) n r)) n (nI (cntP (dn a b) n n)) (fun r hr => by
    rw [f_X4_countUnlike_L1]
    have h2 := lp_cnt (body := f_X4_countUnlike_L2 (nI r) (nI n) a (nI n) b) (fun q => nI (cntP (dn a b) n r + cntB (fun q => dn a b (7 * r + q)) q)) n (nI (cntP (dn a b) n (r + 1))) (fun q hq => by
      rw [f_X4_countUnlike_L2]
      rw [at_n hr hq hn, at_n hr hq hn, cntB]
      simp (disch := omega) only [lit32, bs, pl_e, gd_okI, nI_leI, nI_ltI, nI_eq, nI_add, pk_mul, pk_sub, nI_m1', nI_clamp, if_pos, if_neg, ↓reduceIte]
      by_cases e : a (7 * r + q) = b (7 * r + q)
      · rw [if_pos e, if_neg (by simp [dn, e])]
        try rfl
      · rw [if_neg e, if_pos (by simp [dn, e])]
        try rfl) (by
      rw [f_X4_countUnlike_L2]
      simp (disch := omega) only [lit32, bs, pl_e, gd_okI, nI_leI, nI_ltI, nI_eq, nI_add, pk_mul, pk_sub, nI_m1', nI_clamp, if_pos, if_neg, ↓reduceIte]
      try rfl) (by omega)
    have h3 : lpN (f_X4_countUnlike_L2 (nI r) (nI n) a (nI n) b) FU (nI (cntP (dn a b) n r), (0 : Int32)) = some (nI (cntP (dn a b) n (r + 1))) := h2
    rw [h3]
    simp (disch := omega) only [lit32, bs, pl_e, gd_okI, nI_leI, nI_ltI, nI_eq, nI_add, pk_mul, pk_sub, nI_m1', nI_clamp, if_pos, if_neg, ↓reduceIte]) (by
    rw [f_X4_countUnlike_L1]
    simp (disch := omega) only [lit32, bs, pl_e, gd_okI, nI_leI, nI_ltI, nI_eq, nI_add, pk_mul, pk_sub, nI_m1', nI_clamp, if_pos, if_neg, ↓reduceIte]) (by omega)
  show (lpN (f_X4_countUnlike_L1 (nI n) a (nI n) b) FU (nI (cntP (dn a b) n 0), nI 0)).bind _ = _
  rw [h, bs]
theorem munlike_loop (a b : Nat → Int32) : lpN (f_X10_unlike_L1 a b) FU ((0 : Int32), (0 : Int32)) = some (nI (cntB (dn a b) 49)) := by
  exact lp_cnt (body := f_X10_unlike_L1 a b) (fun j => nI (cntB (dn a b) j)) 49 (nI (cntB (dn a b) 49)) (fun j hj => by
    rw [f_X10_unlike_L1]
    simp (disch := omega) only [lit32, bs, pl_e, gd_okI, nI_leI, nI_ltI, nI_eq, nI_add, pk_mul, pk_sub, nI_m1', nI_clamp, if_pos, if_neg, ↓reduceIte]
    rw [cntB]
    by_cases e : a j = b j
    · rw [if_pos e, if_neg (by simp [dn, e])]
      try rfl
    · rw [if_neg e, if_pos (by simp [dn, e])]
      try rfl) (by
    rw [f_X10_unlike_L1]
    simp (disch := omega) only [lit32, bs, pl_e, gd_okI, nI_leI, nI_ltI, nI_eq, nI_add, pk_mul, pk_sub, nI_m1', nI_clamp, if_pos, if_neg, ↓reduceIte]) (by omega)
/-- a changed matrix is taken if it is unlike -/
theorem chgUnlike_n {n o c : Nat} {S : Nat → Int32} {C : Nat → Nat → Int32} {past m z nc z2 old : Nat → Int32} (hM : Mx n m z) (hM2 : Mx n nc z2) (hH : HI o c S C past) (hold : ∀ k, k < 50 → old k = z k) :
    ∃ r o' c' S' C' past' m', f_X9_changeIfUnlike (nI n) m (nI n) nc (nI o) (nI c) (S 0) (C 0) (S 1) (C 1) (S 2) (C 2) (S 3) (C 3) = some (r, nI n, m', nI o', nI c', S' 0, C' 0, S' 1, C' 1, S' 2, C' 2, S' 3, C' 3) ∧ f_X10_unlike (nI c) z2 old past = some (r, nI c', past') ∧ HI o' c' S' C' past' ∧ Mx n m' z2 := by
  obtain ⟨h1, h7, hcz, hz, h0, hb⟩ := id hM
  obtain ⟨-, -, hcz2, hz2, h02, hb2⟩ := id hM2
  unfold f_X9_changeIfUnlike f_X10_unlike
  have hu : cntP (dn nc m) n n = cntB (dn z2 old) 49 := by
    rw [cntP_all h7 (fun r q hr hq hx => by
      unfold dn
      rw [hcz2 _ (by omega), h02 r q hr hq hx, hcz _ (by omega), h0 r q hr hq hx]
      rfl)]
    exact cntB_congr (fun k hk => by unfold dn; rw [hcz2 k hk, hcz k hk, hold k (by omega)])
  rw [countUnlike_n h7, munlike_loop, hu]
  have hle := cntB_le (dn z2 old) 49
  by_cases e : cntB (dn z2 old) 49 = 0
  · rw [e]
    simp only [bs]
    refine ⟨-2000000005, o, c, S, C, past, m, rfl, rfl, hH, h1, h7, fun k hk => ?_, hz2, h02, hb2⟩
    have := cntB_zero e k hk
    unfold dn at this
    rw [hcz k hk, ← hold k (by omega)]
    simp only [decide_not, Bool.not_eq_eq_eq_not, Bool.not_false, decide_eq_true_eq] at this
    exact this.symm
  · obtain ⟨o', c', S', C', past', m', g1, g2, g3, g4, g5⟩ := chgNext_n (n2 := n) (nc := nc) hM hH
    simp only [bs]
    have hne : ¬ nI (cntB (dn z2 old) 49) = 0 := nI_ne0 (by omega) (by omega)
    rw [if_neg hne, if_neg hne, g1, g2 old hold]
    exact ⟨nI (cntB (dn z2 old) 49), o', c', S', C', past', m', rfl, rfl, g4, h1, h7, fun k hk => by rw [g5 k hk, hcz2 k hk], hz2, h02, hb2⟩
theorem i10 : ¬ (1 : Int32) = 0 := by decide
/-! the calls -/
theorem isEntry_n (x : Int32) : f_X9_isEntry x = f_X10_in x (-20 : Int32) (20 : Int32) := rfl
theorem in20 {x : Int32} (h1 : ¬ x < (-20 : Int32)) (h2 : ¬ (20 : Int32) < x) : -20 ≤ x.toInt ∧ x.toInt ≤ 20 := by
  rw [Int32.lt_iff_toInt_lt] at h1 h2
  have e1 : (-20 : Int32).toInt = -20 := by decide
  have e2 : (20 : Int32).toInt = 20 := by decide
  omega
theorem mclear_n (z : Nat → Int32) (x : Int32) : ∃ z', f_X10_clearAll z x = some z' ∧ (∀ k, k < 49 → z' k = 0) ∧ z' 49 = x := by
  unfold f_X10_clearAll
  have h := lp_cntR (body := f_X10_clearAll_L1) (fun j => fun k => if k < j then 0 else z k) 50 (fun k => if k < 50 then 0 else z k) (fun j hj => by
    rw [f_X10_clearAll_L1]
    simp (disch := omega) only [lit32, bs, pl_e, gd_okI, nI_leI, nI_ltI, nI_eq, nI_add, pk_mul, pk_sub, nI_m1', nI_clamp, if_pos, if_neg, ↓reduceIte]
    congr 4
    funext k
    rw [upd_at]
    by_cases e : k = j
    · subst e; simp
    · by_cases e2 : k < j
      · simp [e, e2, show k < j + 1 by omega]
      · simp [e, e2, show ¬ k < j + 1 by omega]) (by
    rw [f_X10_clearAll_L1]
    simp (disch := omega) only [lit32, bs, pl_e, gd_okI, nI_leI, nI_ltI, nI_eq, nI_add, pk_mul, pk_sub, nI_m1', nI_clamp, if_pos, if_neg, ↓reduceIte]) (by omega)
  have e0 : (fun k => if k < 0 then (0 : Int32) else z k) = z := by funext k; simp
  rw [e0] at h
  have h' : lpN f_X10_clearAll_L1 FU ((0 : Int32), z) = some (fun k => if k < 50 then 0 else z k) := h
  rw [h', bs]
  simp (disch := omega) only [lit32, bs, pl_e, gd_okI, nI_leI, nI_ltI, nI_eq, nI_add, pk_mul, pk_sub, nI_m1', nI_clamp, if_pos, if_neg, ↓reduceIte]
  refine ⟨_, rfl, fun k hk => ?_, ?_⟩
  · rw [upd_at, if_neg (by omega), if_pos (by omega)]
  · rw [upd_at, if_pos rfl]
theorem st_clear {n o c : Nat} {S : Nat → Int32} {C : Nat → Nat → Int32} {past m z : Nat → Int32} (hM : Mx n m z) (hH : HI o c S C past) (ns : Int32) (nc : Nat → Int32) (a1 : Int32) :
    ∃ r n' m' ns' nc' o' c' S' C' z' past', f_X9_clear (nI n) m ns nc (nI o) (nI c) (S 0) (C 0) (S 1) (C 1) (S 2) (C 2) (S 3) (C 3) a1 = some (r, nI n', m', ns', nc', nI o', nI c', S' 0, C' 0, S' 1, C' 1, S' 2, C' 2, S' 3, C' 3) ∧ f_X10_clear (nI c) z past a1 = some (r, nI c', z', past') ∧ Mx n' m' z' ∧ HI o' c' S' C' past' := by
  obtain ⟨h1, h7, hcz, hz, h0, hb⟩ := id hM
  unfold f_X9_clear f_X10_clear
  rw [min_n]
  by_cases e1 : a1 < 1
  · rw [if_pos e1, if_pos e1]
    exact ⟨_, n, m, ns, nc, o, c, S, C, z, past, rfl, rfl, hM, hH⟩
  · rw [if_neg e1, if_neg e1]
    by_cases e2 : (7 : Int32) < a1
    · have e3 : ¬ a1 ≤ (7 : Int32) := by
        rw [Int32.le_iff_toInt_le]; rw [Int32.lt_iff_toInt_lt] at e2; omega
      rw [if_neg e3, if_pos e2]
      exact ⟨_, n, m, ns, nc, o, c, S, C, z, past, rfl, rfl, hM, hH⟩
    · have e3 : a1 ≤ (7 : Int32) := Int32_le_of_not_lt e2
      have e0 : ¬ a1 < 0 := by
        rw [Int32.lt_iff_toInt_lt] at e1 ⊢
        have : (1 : Int32).toInt = 1 := by decide
        have : (0 : Int32).toInt = 0 := by decide
        omega
      obtain ⟨j, hj, rfl⟩ := nI_of e0
      have hj1 : 1 ≤ j := by
        apply Decidable.byContradiction
        intro h
        exact e1 (nI_lt (b := 1) (by omega) (by omega))
      have hj7 : j ≤ 7 := (nI_leI hj (b := 7) (by omega)).mp e3
      rw [if_pos e3, if_neg e2]
      obtain ⟨w, hw1, hw2⟩ := fill_n hj1 hj7 ns nc
      obtain ⟨o', c', S', C', past', m', g1, g2, g3, g4, g5⟩ := chgNext_n (n2 := j) (nc := w) hM hH
      obtain ⟨z', hz1, hz2, hz3⟩ := mclear_n z (nI j)
      simp only [bs, f_X4_size, hw1, g1, g3]
      rw [if_neg (by decide), mz49 hz, gd_t (by decide), pl_e, hz1, bs]
      refine ⟨nI n, j, m', nI j, w, o', c', S', C', z', past', rfl, rfl, ⟨hj1, hj7, fun k hk => by rw [g5 k hk, hw2 k hk, hz2 k hk], hz3, fun r q hr hq _ => hz2 _ (by omega), fun k hk => by rw [hz2 k hk]; decide⟩, g4⟩
theorem st_set {n o c : Nat} {S : Nat → Int32} {C : Nat → Nat → Int32} {past m z : Nat → Int32} (hM : Mx n m z) (hH : HI o c S C past) (ns : Int32) (nc : Nat → Int32) (a1 a2 a3 : Int32) :
    ∃ r n' m' ns' nc' o' c' S' C' z' past', f_X9_set (nI n) m ns nc (nI o) (nI c) (S 0) (C 0) (S 1) (C 1) (S 2) (C 2) (S 3) (C 3) a1 a2 a3 = some (r, nI n', m', ns', nc', nI o', nI c', S' 0, C' 0, S' 1, C' 1, S' 2, C' 2, S' 3, C' 3) ∧ f_X10_set (nI c) z past a1 a2 a3 = some (r, nI c', z', past') ∧ Mx n' m' z' ∧ HI o' c' S' C' past' := by
  obtain ⟨h1, h7, hcz, hz, h0, hb⟩ := id hM
  have hno : ∀ (r : Int32), ∃ r1 n' m' ns' nc' o' c' S' C' z' past', some (r, nI n, m, ns, nc, nI o, nI c, S 0, C 0, S 1, C 1, S 2, C 2, S 3, C 3) = some (r1, nI n', m', ns', nc', nI o', nI c', S' 0, C' 0, S' 1, C' 1, S' 2, C' 2, S' 3, C' 3) ∧ some (r, nI c, z, past) = some (r1, nI c', z', past') ∧ Mx n' m' z' ∧ HI o' c' S' C' past' := fun r => ⟨r, n, m, ns, nc, o, c, S, C, z, past, rfl, rfl, hM, hH⟩
  unfold f_X9_set f_X10_set
  rcases line_cases n a1 with ⟨i, hi, rfl⟩ | h
  · rw [has_n hi h7, mline_n hz hi h7]
    rcases line_cases n a2 with ⟨j, hj, rfl⟩ | h
    · rw [has_n hj h7, mline_n hz hj h7, isEntry_n, min_n]
      by_cases e1 : a3 < (-20 : Int32)
      · rw [if_pos e1]
        simp only [bs, i10, ↓reduceIte]
        exact hno _
      rw [if_neg e1]
      by_cases e2 : (20 : Int32) < a3
      · rw [if_pos e2]
        simp only [bs, i10, ↓reduceIte]
        exact hno _
      rw [if_neg e2, at_n hi hj h7, mat_n (by omega) (by omega)]
      simp only [bs, i10, ↓reduceIte]
      rw [hcz _ (show 7 * i + j < 49 by omega)]
      by_cases e3 : z (7 * i + j) = a3
      · rw [if_pos e3, if_pos e3]; exact hno _
      · rw [if_neg e3, if_neg e3]
        simp only [copy_e, bs, put_n hi hj h7]
        obtain ⟨o', c', S', C', past', m', g1, g2, g3, g4, g5⟩ := chgNext_n (n2 := n) (nc := upd (va_cpy m nc 0 0 49) (7 * i + j) a3) hM hH
        rw [g1, g3]
        simp (disch := omega) only [lit32, bs, pl_e, gd_okI, nI_leI, nI_ltI, nI_eq, nI_add, pk_mul, pk_sub, nI_m1', nI_clamp, if_pos, if_neg, ↓reduceIte]
        have hM2 := Mx_upd (nc := va_cpy m nc 0 0 49) hM hi hj (fun k hk => cpy49 _ _ hk) (in20 e1 e2)
        exact ⟨_, n, m', nI n, _, o', c', S', C', _, past', rfl, rfl, hM2.congr g5 (fun _ _ => rfl), g4⟩
    · rw [has_no h h7, mline_no hz h1 h h7]
      exact hno _
  · rw [has_no h h7, mline_no hz h1 h h7]
    exact hno _
