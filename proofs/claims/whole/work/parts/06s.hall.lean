/-! MATHEMATICS: Hall's theorem -/
theorem cntB_mono {P Q : Nat → Bool} {n : Nat} (h : ∀ x, x < n → P x = true → Q x = true) : cntB P n ≤ cntB Q n := by
  induction n with
  | zero => exact Nat.le_refl _
  | succ n ih =>
    have h1 := ih (fun x hx => h x (by omega))
    have h2 := h n (by omega)
    rw [cntB, cntB]
    by_cases hp : P n = true
    · rw [if_pos hp, if_pos (h2 hp)]
      omega
    · rw [if_neg hp]
      omega
theorem cntB_or {P Q : Nat → Bool} {n : Nat} (h : ∀ x, x < n → P x = true → Q x = false) : cntB (fun x => P x || Q x) n = cntB P n + cntB Q n := by
  induction n with
  | zero => rfl
  | succ n ih =>
    have h2 := h n (by omega)
    rw [cntB, cntB, cntB, ih (fun x hx => h x (by omega))]
    cases hp : P n with
    | true =>
      rw [h2 hp]
      simp
      omega
    | false =>
      cases Q n <;> simp
      omega
theorem cntB_some {P : Nat → Bool} {n : Nat} (h : 0 < cntB P n) : ∃ x, x < n ∧ P x = true := by
  refine Decidable.byContradiction fun hc => ?_
  have : cntB P n = 0 := cntB_false (fun k hk => by
    cases hp : P k with
    | false => rfl
    | true => exact absurd ⟨k, hk, hp⟩ hc)
  omega
theorem cntB_one {P : Nat → Bool} {n x : Nat} (hx : x < n) (h : P x = true) : cntB (dl P x) n + 1 = cntB P n := by
  have := cntB_dl (R := fun _ => true) h n
  rw [if_pos ⟨hx, rfl⟩] at this
  simp only [Bool.and_true] at this
  exact this
theorem hall (adj : Nat → Nat → Bool) (n : Nat) : ∀ (k : Nat) (R S : Nat → Bool), cntB R n ≤ k → (∀ R' : Nat → Bool, (∀ x, x < n → R' x = true → R x = true) → cntB R' n ≤ cntB (nbr adj n R' S) n) → ∃ f : Nat → Nat, (∀ r, r < n → R r = true → f r < n ∧ S (f r) = true ∧ adj r (f r) = true) ∧ ∀ r r', r < n → r' < n → R r = true → R r' = true → f r = f r' → r = r' := by
  intro k
  induction k with
  | zero =>
    intro R S hk _
    have hno : ∀ r, r < n → ¬ R r = true := by
      intro r hr hR
      have := cntB_one hr hR
      omega
    exact ⟨fun _ => 0, fun r hr hR => absurd hR (hno r hr), fun r r' hr _ hR _ _ => absurd hR (hno r hr)⟩
  | succ k ih =>
    intro R S hk hH
    by_cases h0 : cntB R n = 0
    · exact ih R S (by omega) hH
    · obtain ⟨r0, hr0, hR0⟩ := cntB_some (P := R) (n := n) (by omega)
      by_cases hA : ∃ T : Nat → Bool, (∀ x, x < n → T x = true → R x = true) ∧ 0 < cntB T n ∧ cntB T n < cntB R n ∧ cntB (nbr adj n T S) n = cntB T n
      · obtain ⟨T, t1, t2, t3, t4⟩ := hA
        obtain ⟨f0, a1, a2⟩ := ih T S (by omega) (fun R' h => hH R' (fun x hx hx' => t1 x hx (h x hx hx')))
        have hsplit : cntB T n + cntB (fun x => R x && !T x) n = cntB R n := by
          rw [← cntB_or (fun x _ hx => by rw [hx]; simp)]
          exact cntB_congr (fun x hx => by
            cases ht : T x with
            | true => rw [t1 x hx ht]; rfl
            | false => simp)
        obtain ⟨f1, b1, b2⟩ := ih (fun x => R x && !T x) (fun a => S a && !nbr adj n T S a) (by omega) (fun R' h => by
          have hu := hH (fun x => T x || R' x) (fun x hx hx' => by
            rw [Bool.or_eq_true] at hx'
            rcases hx' with hx' | hx'
            · exact t1 x hx hx'
            · have := h x hx hx'
              rw [Bool.and_eq_true] at this
              exact this.1)
          rw [cntB_or (fun x hx hT => by
            cases hR' : R' x with
            | false => rfl
            | true =>
              have := h x hx hR'
              rw [hT] at this
              simp at this)] at hu
          have hle : cntB (nbr adj n (fun x => T x || R' x) S) n ≤ cntB (fun a => nbr adj n T S a || nbr adj n R' (fun a => S a && !nbr adj n T S a) a) n := cntB_mono (fun a ha hx => by
            obtain ⟨s1, r, s2, s3, s4⟩ := nbr_t.mp hx
            rw [Bool.or_eq_true]
            by_cases hT : nbr adj n T S a = true
            · exact Or.inl hT
            · refine Or.inr (nbr_t.mpr ⟨by rw [s1]; simpa using hT, r, s2, ?_, s4⟩)
              rw [Bool.or_eq_true] at s3
              rcases s3 with s3 | s3
              · exact absurd (nbr_t.mpr ⟨s1, r, s2, s3, s4⟩) hT
              · exact s3)
          rw [cntB_or (fun a _ hx => by
            cases hc : nbr adj n R' (fun a => S a && !nbr adj n T S a) a with
            | false => rfl
            | true =>
              have := (nbr_t.mp hc).1
              rw [hx] at this
              simp at this), t4] at hle
          omega)
        refine ⟨fun r => if T r then f0 r else f1 r, ?_, ?_⟩
        · intro r hr hR
          dsimp only
          cases hT : T r with
          | true =>
            rw [if_pos rfl]
            exact a1 r hr hT
          | false =>
            obtain ⟨c1, c2, c3⟩ := b1 r hr (by rw [hR, hT]; rfl)
            rw [Bool.and_eq_true] at c2
            rw [if_neg (by decide)]
            exact ⟨c1, c2.1, c3⟩
        · intro r r' hr hr' hR hR' he
          have hdis : ∀ x y, x < n → y < n → T x = true → R y = true → T y = false → f0 x ≠ f1 y := by
            intro x y hx hy hTx hRy hTy hxy
            obtain ⟨c1, c2, c3⟩ := b1 y hy (by rw [hRy, hTy]; rfl)
            obtain ⟨d1, d2, d3⟩ := a1 x hx hTx
            rw [Bool.and_eq_true] at c2
            have : nbr adj n T S (f1 y) = true := by
              rw [← hxy]
              exact nbr_t.mpr ⟨d2, x, hx, hTx, d3⟩
            rw [this] at c2
            exact absurd c2.2 (by decide)
          cases hT : T r with
          | true =>
            cases hT' : T r' with
            | true =>
              simp only [hT, hT', if_true] at he
              exact a2 r r' hr hr' hT hT' he
            | false =>
              simp only [hT, hT', if_true] at he
              exact absurd he (by simpa using hdis r r' hr hr' hT hR' hT')
          | false =>
            cases hT' : T r' with
            | true =>
              simp only [hT, hT', if_true] at he
              exact absurd he.symm (by simpa using hdis r' r hr' hr hT' hR hT)
            | false =>
              simp only [hT, hT'] at he
              exact b2 r r' hr hr' (by rw [hR, hT]; rfl) (by rw [hR', hT']; rfl) (by simpa using he)
      · have h1 := hH (fun x => decide (x = r0)) (fun x _ hx => by
          rw [of_decide_eq_true hx]
          exact hR0)
        have h2 : 0 < cntB (fun x => decide (x = r0)) n := by
          have := cntB_one (P := fun x => decide (x = r0)) hr0 (by simp)
          omega
        obtain ⟨a0, ha0, hn0⟩ := cntB_some (Nat.lt_of_lt_of_le h2 h1)
        obtain ⟨s1, r, s2, s3, s4⟩ := nbr_t.mp hn0
        have hrr : r = r0 := of_decide_eq_true s3
        subst hrr
        have hcnt := cntB_one hr0 hR0
        obtain ⟨f, a1, a2⟩ := ih (dl R r) (dl S a0) (by omega) (fun R' h => by
          by_cases hz : cntB R' n = 0
          · omega
          · have hsub : ∀ x, x < n → R' x = true → R x = true := fun x hx hx' => by
              have := h x hx hx'
              unfold dl at this
              rw [Bool.and_eq_true] at this
              exact this.1
            have hlt : cntB R' n < cntB R n := by
              have := cntB_mono h
              omega
            have hge := hH R' hsub
            have hne : cntB (nbr adj n R' S) n ≠ cntB R' n := fun hc => hA ⟨R', hsub, by omega, hlt, hc⟩
            have hdl : cntB (nbr adj n R' S) n ≤ cntB (nbr adj n R' (dl S a0)) n + 1 := by
              by_cases hin : nbr adj n R' S a0 = true
              · rw [← cntB_one ha0 hin]
                have := cntB_mono (P := dl (nbr adj n R' S) a0) (Q := nbr adj n R' (dl S a0)) (n := n) (fun x hx hx' => by
                  unfold dl at hx'
                  rw [Bool.and_eq_true] at hx'
                  obtain ⟨u1, u2⟩ := nbr_t.mp hx'.1
                  refine nbr_t.mpr ⟨?_, u2⟩
                  unfold dl
                  rw [u1, hx'.2]
                  rfl)
                omega
              · have := cntB_mono (P := nbr adj n R' S) (Q := nbr adj n R' (dl S a0)) (n := n) (fun x hx hx' => by
                  obtain ⟨u1, u2⟩ := nbr_t.mp hx'
                  refine nbr_t.mpr ⟨?_, u2⟩
                  have hxa : x ≠ a0 := by
                    intro e
                    rw [e] at hx'
                    exact hin hx'
                  rw [dl_at hxa]
                  exact u1)
                omega
            omega)
        refine ⟨fun x => if x = r then a0 else f x, ?_, ?_⟩
        · intro x hx hR
          dsimp only
          by_cases e : x = r
          · rw [if_pos e, e]
            exact ⟨ha0, s1, s4⟩
          · rw [if_neg e]
            obtain ⟨c1, c2, c3⟩ := a1 x hx (by rw [dl_at e]; exact hR)
            unfold dl at c2
            rw [Bool.and_eq_true] at c2
            exact ⟨c1, c2.1, c3⟩
        · have hne : ∀ x, x < n → R x = true → x ≠ r → f x ≠ a0 := by
            intro x hx hR e hc
            obtain ⟨c1, c2, c3⟩ := a1 x hx (by rw [dl_at e]; exact hR)
            rw [hc, dl_self] at c2
            cases c2
          intro x x' hx hx' hR hR' he
          by_cases e : x = r
          · by_cases e' : x' = r
            · rw [e, e']
            · simp only [if_pos e, if_neg e'] at he
              exact absurd he.symm (hne x' hx' hR' e')
          · by_cases e' : x' = r
            · simp only [if_neg e, if_pos e'] at he
              exact absurd he (hne x hx hR e)
            · simp only [if_neg e, if_neg e'] at he
              exact a2 x x' hx hx' (by rw [dl_at e]; exact hR) (by rw [dl_at e']; exact hR') he
