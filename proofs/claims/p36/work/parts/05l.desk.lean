/-! MATHEMATICS, part l: the desk's reader -/
theorem lp_FU {σ ρ : Type} {body : σ → Option (σ ⊕ ρ)} {s s' : σ} (h : body s = some (.inl s')) : lpN body FU s = lpN body 99999 s' := lp_step (n := 99999) h
theorem lp_FUe {σ ρ : Type} {body : σ → Option (σ ⊕ ρ)} {s : σ} {r : ρ} (h : body s = some (.inr r)) : lpN body FU s = some r := lp_end (n := 99999) h
theorem b2i_t {b : Bool} (h : b = true) : b2i b = 1 := by rw [h]; rfl
theorem b2i_f {b : Bool} (h : ¬ b = true) : b2i b = 0 := by
  cases b with
  | true => exact absurd rfl h
  | false => rfl
theorem lit10' (d e : Nat) : nI d * (10 : Int32) + nI (e + 48) - 48 = nI (10 * d + e) := by
  rw [Int32.mul_comm]; exact dlit10 d e
/-- the loop over further digits, from a first number v at q -/
theorem digLoop_n {L q v : Nat} {t : Nat → Int32} (v0 : Int32) (hL : L ≤ 100) (hq : q ≤ L) (hv : v < 10) :
    lpN (f_X8_takeEntry_L1 v0 (nI L) t) FU (nI v, nI q) = some (if inr (chr L t q) 48 57 then (if 0 < v ∧ 10 * nI v + chr L t q - 48 ≤ (20 : Int32) then (if inr (chr L t (q + 1)) 48 57 then .inr (0, nI (q + 1), v0) else .inl (10 * nI v + chr L t q - 48, nI (q + 1))) else .inr (0, nI q, v0)) else .inl (nI v, nI q)) := by
  by_cases e : inr (chr L t q) 48 57 = true
  · rw [if_pos e]
    have l1 := inr_lt (by decide) e
    obtain ⟨d, hd, -, hd4⟩ := digs e
    by_cases e2 : 0 < v ∧ 10 * nI v + chr L t q - 48 ≤ (20 : Int32)
    · rw [if_pos e2]
      have hx := e2.2
      rw [hd4, dlit10] at hx ⊢
      have hle := (nI_leI (b := 20) (by omega) (by omega)).mp hx
      have h1 : f_X8_takeEntry_L1 v0 (nI L) t (nI v, nI q) = some (.inl (nI (10 * v + d), nI (q + 1))) := by
        rw [f_X8_takeEntry_L1]
        unfold f_X7_length
        simp only [bs]
        rw [if_neg (nI_ge l1 (by omega)), at_chr hL (by omega), bs, isDigit_n, b2i_t e, bs, if_neg i10, bs, hd4, lit10', pl_e, if_neg (nI_ne0 (by omega) (by omega)), if_pos hx, pl_e, show nI q + (1 : Int32) = nI (q + 1) from nI_1 q]
      rw [lp_FU h1]
      have h2 : f_X8_takeEntry_L1 v0 (nI L) t (nI (10 * v + d), nI (q + 1)) = some (.inr (if inr (chr L t (q + 1)) 48 57 then .inr (0, nI (q + 1), v0) else .inl (nI (10 * v + d), nI (q + 1)))) := by
        rw [f_X8_takeEntry_L1]
        unfold f_X7_length
        simp only [bs]
        by_cases l2 : q + 1 < L
        · rw [if_neg (nI_ge l2 (by omega)), at_chr hL (by omega), bs, isDigit_n]
          by_cases e3 : inr (chr L t (q + 1)) 48 57 = true
          · obtain ⟨d2, hd5, -, hd7⟩ := digs e3
            rw [b2i_t e3, bs, if_neg i10, bs, if_pos e3, hd7, lit10', pl_e, if_neg (nI_ne0 (by omega) (by omega)), if_neg (show ¬ nI (10 * (10 * v + d) + d2) ≤ (20 : Int32) from nI_ge (a := 20) (by omega) (by omega))]
          · rw [b2i_f e3, bs, if_pos rfl, if_neg e3]
        · rw [if_pos (nI_le (by omega) (by omega)), if_neg (fun h => l2 (inr_lt (by decide) h))]
      exact lp_end (n := 99998) h2
    · rw [if_neg e2]
      refine lp_FUe ?_
      rw [f_X8_takeEntry_L1]
      unfold f_X7_length
      simp only [bs]
      rw [if_neg (nI_ge l1 (by omega)), at_chr hL (by omega), bs, isDigit_n, b2i_t e, bs, if_neg i10, bs, pl_e]
      by_cases e3 : v = 0
      · rw [if_pos (by rw [e3]; rfl)]
      · rw [if_neg (nI_ne0 (by omega) (by omega)), if_neg (fun h => e2 ⟨by omega, by rw [Int32.mul_comm]; exact h⟩)]
  · rw [if_neg e]
    refine lp_FUe ?_
    rw [f_X8_takeEntry_L1]
    unfold f_X7_length
    simp only [bs]
    by_cases l1 : q < L
    · rw [if_neg (nI_ge l1 (by omega)), at_chr hL (by omega), bs, isDigit_n, b2i_f e, bs, if_pos rfl]
    · rw [if_pos (nI_le (by omega) (by omega))]
/-- an entry as the desk takes it: refused too if a further digit follows -/
def okE (L : Nat) (t : Nat → Int32) (p : Nat) : Bool := (en L t p).1 && !inr (chr L t (en L t p).2.1) 48 57
theorem takeEntry_n {L p : Nat} {t : Nat → Int32} (v0 : Int32) (hL : L ≤ 100) (hp : p ≤ L) : ∃ v', f_X8_takeEntry (nI p) v0 (nI L) t = some (b2i (okE L t p), nI (en L t p).2.1, v') ∧ (okE L t p = true → v' = (en L t p).2.2) := by
  unfold f_X8_takeEntry okE
  rw [at_chr hL (by omega), bs]
  unfold en
  by_cases e : chr L t p = 45
  · rw [if_pos e, if_pos e, bs]
    simp only [i10, ↓reduceIte, pl_e, bs]
    have lp : p < L := by
      apply Decidable.byContradiction
      intro hc
      unfold chr at e
      rw [if_neg hc] at e
      exact absurd e (by decide)
    rw [show nI p + (1 : Int32) = nI (p + 1) from nI_1 p, at_chr hL (by omega), bs, isDigit_n, bs]
    by_cases e1 : inr (chr L t (p + 1)) 49 57 = true
    · have l1 := inr_lt (by decide) e1
      obtain ⟨d, hd1, hd2, hd3, hd4⟩ := digs9 e1
      have e1' := e1
      rw [inr9, Bool.and_eq_true] at e1'
      rw [if_pos e1, b2i_t e1'.1, if_neg i10, if_neg (of_decide_eq_true e1'.2), hd3, show nI (p + 1) + (1 : Int32) = nI (p + 2) from nI_1 (p + 1), digLoop_n v0 hL (by omega) hd2, bs]
      by_cases e2 : inr (chr L t (p + 2)) 48 57 = true
      · rw [if_pos e2]
        by_cases e3 : 10 * nI d + chr L t (p + 2) - 48 ≤ (20 : Int32)
        · rw [if_pos (show 0 < d ∧ 10 * nI d + chr L t (p + 2) - 48 ≤ (20 : Int32) from ⟨hd1, e3⟩), if_pos (show inr (chr L t (p + 2)) 48 57 = true ∧ 10 * nI d + chr L t (p + 2) - 48 ≤ (20 : Int32) from ⟨e2, e3⟩)]
          by_cases e4 : inr (chr L t (p + 2 + 1)) 48 57 = true
          · rw [if_pos e4]
            simp only [e4]
            exact ⟨v0, rfl, fun h => by cases h⟩
          · rw [if_neg e4]
            have e4' : inr (chr L t (p + 2 + 1)) 48 57 = false := by simpa using e4
            simp only [e4']
            exact ⟨_, rfl, fun _ => rfl⟩
        · rw [if_neg (show ¬ (0 < d ∧ 10 * nI d + chr L t (p + 2) - 48 ≤ (20 : Int32)) from fun h => e3 h.2), if_neg (show ¬ (inr (chr L t (p + 2)) 48 57 = true ∧ 10 * nI d + chr L t (p + 2) - 48 ≤ (20 : Int32)) from fun h => e3 h.2)]
          simp only [e2]
          exact ⟨v0, rfl, fun h => by cases h⟩
      · rw [if_neg e2, if_neg (show ¬ (inr (chr L t (p + 2)) 48 57 = true ∧ 10 * nI d + chr L t (p + 2) - 48 ≤ (20 : Int32)) from fun h => e2 h.1)]
        have e2' : inr (chr L t (p + 2)) 48 57 = false := by simpa using e2
        simp only [e2']
        exact ⟨_, rfl, fun _ => rfl⟩
    · rw [if_neg e1]
      have e1' := e1
      rw [inr9, Bool.and_eq_true] at e1'
      by_cases e2 : inr (chr L t (p + 1)) 48 57 = true
      · rw [b2i_t e2, if_neg i10, if_pos (by
          apply Decidable.byContradiction
          intro hc
          exact e1' ⟨e2, decide_eq_true hc⟩)]
        exact ⟨v0, rfl, fun h => by cases h⟩
      · rw [b2i_f e2, if_pos rfl]
        exact ⟨v0, rfl, fun h => by cases h⟩
  · rw [if_neg e, if_neg e, bs]
    simp only [↓reduceIte, bs]
    rw [at_chr hL (by omega), bs, isDigit_n, bs]
    by_cases e1 : inr (chr L t p) 48 57 = true
    · have l1 := inr_lt (by decide) e1
      obtain ⟨d, hd2, hd3, hd4⟩ := digs e1
      rw [if_pos e1, b2i_t e1, if_neg i10, hd3, pl_e, pl_e, show nI p + (1 : Int32) = nI (p + 1) from nI_1 p, digLoop_n v0 hL (by omega) hd2, bs]
      by_cases e2 : inr (chr L t (p + 1)) 48 57 = true
      · rw [if_pos e2]
        by_cases e3 : 0 < d ∧ 10 * nI d + chr L t (p + 1) - 48 ≤ (20 : Int32)
        · rw [if_pos e3, if_pos (show 0 < nI d ∧ inr (chr L t (p + 1)) 48 57 = true ∧ 10 * nI d + chr L t (p + 1) - 48 ≤ (20 : Int32) from ⟨nI_lt (a := 0) e3.1 (by omega), e2, e3.2⟩)]
          by_cases e4 : inr (chr L t (p + 1 + 1)) 48 57 = true
          · rw [if_pos e4]
            simp only [e4]
            exact ⟨v0, rfl, fun h => by cases h⟩
          · rw [if_neg e4]
            have e4' : inr (chr L t (p + 1 + 1)) 48 57 = false := by simpa using e4
            simp only [e4']
            exact ⟨_, rfl, fun _ => rfl⟩
        · rw [if_neg e3, if_neg (show ¬ (0 < nI d ∧ inr (chr L t (p + 1)) 48 57 = true ∧ 10 * nI d + chr L t (p + 1) - 48 ≤ (20 : Int32)) from fun h => e3 ⟨(nI_ltI (a := 0) (by omega) (by omega)).mp h.1, h.2.2⟩)]
          simp only [e2]
          exact ⟨v0, rfl, fun h => by cases h⟩
      · rw [if_neg e2, if_neg (show ¬ (0 < nI d ∧ inr (chr L t (p + 1)) 48 57 = true ∧ 10 * nI d + chr L t (p + 1) - 48 ≤ (20 : Int32)) from fun h => e2 h.2.1)]
        have e2' : inr (chr L t (p + 1)) 48 57 = false := by simpa using e2
        simp only [e2']
        exact ⟨_, rfl, fun _ => rfl⟩
    · rw [if_neg e1, b2i_f e1, if_pos rfl]
      exact ⟨v0, rfl, fun h => by cases h⟩
/-- the reading, entry by entry: whether there is a matrix, its rows or the fault's place, the entries -/
def due (j R : Nat) : Nat := if R = 0 then j + 1 else R
def rd (L : Nat) (t : Nat → Int32) : Nat → Nat → Nat → Nat → Nat → (Nat → Int32) → Bool × Nat × (Nat → Int32)
  | 0, _, _, _, p, w => (false, p, fun _ => 0)
  | f + 1, i, j, R, p, w =>
    if (en L t p).1 = true then
      if (en L t p).2.1 < L then
        if chr L t (en L t p).2.1 = 44 then
          if j + 1 < (if R = 0 then 7 else R) then rd L t f i (j + 1) R ((en L t p).2.1 + 1) (upd w (7 * i + j) (en L t p).2.2) else (false, (en L t p).2.1, fun _ => 0)
        else if chr L t (en L t p).2.1 = 47 then
          if j + 1 = due j R ∧ i + 1 < due j R then rd L t f (i + 1) 0 (due j R) ((en L t p).2.1 + 1) (upd w (7 * i + j) (en L t p).2.2) else (false, (en L t p).2.1, fun _ => 0)
        else (false, (en L t p).2.1, fun _ => 0)
      else
        if j + 1 = due j R ∧ i + 1 = due j R then (true, due j R, upd w (7 * i + j) (en L t p).2.2) else (false, (en L t p).2.1, fun _ => 0)
    else (false, (en L t p).2.1, fun _ => 0)
theorem inr_ne {c : Int32} (h : inr c 48 57 = true) : ¬ c = 44 ∧ ¬ c = 47 := by
  obtain ⟨d, hd, -, rfl⟩ := digs h
  exact ⟨fun hc => by have := nI_inj (b := 44) (by omega) (by omega) hc; omega, fun hc => by have := nI_inj (b := 47) (by omega) (by omega) hc; omega⟩
theorem deskLoop_n {L : Nat} {t : Nat → Int32} (hL : L ≤ 100) : ∀ (f x i j R p : Nat) (w w1 : Nat → Int32) (v : Int32) (fu : Nat), x + f = 49 → f < fu → i < 7 → j < 7 → R ≤ 7 → p ≤ L → (∀ k, k < 49 → w1 k = w k) →
    ∃ z, lpN (f_X8_readInto_L1 (nI 7) (nI L) t) fu (nI x, nI p, nI i, nI j, nI R, v, w1) = some z ∧
      (((rd L t f i j R p w).1 = false ∧ ((∃ a b c d v' w', z = .inr (nI (rd L t f i j R p w).2.1, a, b, c, d, v', nI 7, w')) ∨ (∃ b c d v' w', z = .inl (nI (rd L t f i j R p w).2.1, b, c, d, v', w')))) ∨
       ((rd L t f i j R p w).1 = true ∧ 1 ≤ (rd L t f i j R p w).2.1 ∧ (rd L t f i j R p w).2.1 ≤ 7 ∧ ∃ a b c d v' w', z = .inr (-1, a, b, c, d, v', nI (rd L t f i j R p w).2.1, w') ∧ ∀ k, k < 49 → w' k = (rd L t f i j R p w).2.2 k)) := by
  intro f
  induction f with
  | zero =>
    intro x i j R p w w1 v fu hx hfu hi hj hR hp hw
    obtain ⟨g, rfl⟩ : ∃ g, fu = g + 1 := ⟨fu - 1, by omega⟩
    have : x = 49 := by omega
    subst this
    refine ⟨_, lp_end (r := .inl (nI p, nI i, nI j, nI R, v, w1)) (by rw [f_X8_readInto_L1, if_pos (show (49 : Int32) ≤ nI 49 by decide)]), Or.inl ⟨rfl, Or.inr ⟨_, _, _, _, _, rfl⟩⟩⟩
  | succ f ih =>
    intro x i j R p w w1 v fu hx hfu hi hj hR hp hw
    obtain ⟨g, rfl⟩ : ∃ g, fu = g + 1 := ⟨fu - 1, by omega⟩
    obtain ⟨v', hv1, hv2⟩ := takeEntry_n v hL hp (t := t)
    have hle := (en_le (t := t) hp).1
    -- what happens after the entry
    have fault : ∀ z, f_X8_readInto_L1 (nI 7) (nI L) t (nI x, nI p, nI i, nI j, nI R, v, w1) = some (.inr z) → lpN (f_X8_readInto_L1 (nI 7) (nI L) t) (g + 1) (nI x, nI p, nI i, nI j, nI R, v, w1) = some z := fun z hz => lp_end hz
    have hhead : f_X8_readInto_L1 (nI 7) (nI L) t (nI x, nI p, nI i, nI j, nI R, v, w1) = (if (49 : Int32) ≤ nI x then _ else _) := f_X8_readInto_L1.eq_1 ..
    rw [if_neg (show ¬ (49 : Int32) ≤ nI x from nI_ge (b := 49) (by omega) (by omega)), hv1] at hhead
    simp only [bs] at hhead
    have hcomma : (if nI R = 0 then some (7 : Int32) else some (nI R)) = some (nI (if R = 0 then 7 else R)) := by
      by_cases e : R = 0
      · rw [if_pos (by rw [e]; rfl), if_pos e]; rfl
      · rw [if_neg (nI_ne0 (by omega) (by omega)), if_neg e]
    have hdue : (if nI R = 0 then some (nI j + (1 : Int32)) else some (nI R)) = some (nI (due j R)) := by
      unfold due
      by_cases e : R = 0
      · rw [if_pos (by rw [e]; rfl), if_pos e, show nI j + (1 : Int32) = nI (j + 1) from nI_1 j]
      · rw [if_neg (nI_ne0 (by omega) (by omega)), if_neg e]
    have hdl : due j R ≤ 7 := by unfold due; split <;> omega
    have hd1 : 1 ≤ due j R := by unfold due; split <;> omega
    rw [rd]
    by_cases e0 : (en L t p).1 = true
    · rw [if_pos e0]
      by_cases ed : inr (chr L t (en L t p).2.1) 48 57 = true
      · -- a further digit
        have hq : (en L t p).2.1 < L := inr_lt (by decide) ed
        have hok : okE L t p = false := by unfold okE; rw [e0, ed]; rfl
        rw [hok] at hhead
        rw [if_pos (show b2i false = 0 from rfl)] at hhead
        rw [if_pos hq, if_neg (inr_ne ed).1, if_neg (inr_ne ed).2]
        exact ⟨_, fault _ hhead, Or.inl ⟨rfl, Or.inl ⟨_, _, _, _, _, _, rfl⟩⟩⟩
      · have hok : okE L t p = true := by
          unfold okE
          rw [e0]
          simpa using ed
        rw [hok, if_neg (show ¬ b2i true = 0 from i10), put_n hi hj (Nat.le_refl 7), hv2 hok] at hhead
        unfold f_X7_length at hhead
        simp only [bs] at hhead
        have hwu : ∀ k, k < 49 → upd w1 (7 * i + j) (en L t p).2.2 k = upd w (7 * i + j) (en L t p).2.2 k := fun k hk => by
          rw [upd_at, upd_at, hw k hk]
        by_cases hq : (en L t p).2.1 < L
        · rw [if_pos hq]
          rw [if_pos (nI_lt hq (by omega))] at hhead
          unfold f_X8_takeSeparator at hhead
          rw [at_chr hL (by omega), bs] at hhead
          by_cases ec : chr L t (en L t p).2.1 = 44
          · rw [if_pos ec]
            rw [if_pos ec] at hhead
            unfold f_X8_takeComma at hhead
            rw [hcomma, bs, show nI j + (1 : Int32) = nI (j + 1) from nI_1 j] at hhead
            by_cases el : j + 1 < (if R = 0 then 7 else R)
            · rw [if_pos el]
              have hl7 : (if R = 0 then 7 else R) ≤ 7 := by split <;> omega
              rw [if_pos (nI_lt el (by omega))] at hhead
              simp only [pl_e, bs] at hhead
              rw [gd_t (show (1 : Int32) = 0 ∨ True from Or.inr trivial), bs] at hhead
              simp only [i10, ↓reduceIte] at hhead
              rw [show nI x + (1 : Int32) = nI (x + 1) from nI_1 x, show nI (en L t p).2.1 + (1 : Int32) = nI ((en L t p).2.1 + 1) from nI_1 _] at hhead
              rw [lp_step hhead]
              exact ih (x + 1) i (j + 1) R ((en L t p).2.1 + 1) _ _ _ g (by omega) (by omega) hi (by omega) hR (by omega) hwu
            · rw [if_neg el]
              rw [if_neg (fun h => el ((nI_ltI (by omega) (by split <;> omega)).mp h))] at hhead
              simp only [bs] at hhead
              rw [gd_t (show True ∨ (0 : Int32) = 1 from Or.inl trivial), bs] at hhead
              simp only [↓reduceIte] at hhead
              exact ⟨_, fault _ hhead, Or.inl ⟨rfl, Or.inl ⟨_, _, _, _, _, _, rfl⟩⟩⟩
          · rw [if_neg ec]
            rw [if_neg ec] at hhead
            by_cases es : chr L t (en L t p).2.1 = 47
            · rw [if_pos es]
              rw [if_pos es] at hhead
              unfold f_X8_takeSlash at hhead
              rw [hdue, bs, show nI j + (1 : Int32) = nI (j + 1) from nI_1 j, show nI i + (1 : Int32) = nI (i + 1) from nI_1 i] at hhead
              by_cases el : j + 1 = due j R ∧ i + 1 < due j R
              · rw [if_pos el]
                rw [if_pos (by rw [el.1]), if_pos (nI_lt el.2 (by omega))] at hhead
                simp only [pl_e, bs, i10, ↓reduceIte] at hhead
                rw [show nI x + (1 : Int32) = nI (x + 1) from nI_1 x, show nI (en L t p).2.1 + (1 : Int32) = nI ((en L t p).2.1 + 1) from nI_1 _] at hhead
                rw [lp_step hhead]
                exact ih (x + 1) (i + 1) 0 (due j R) ((en L t p).2.1 + 1) _ _ _ g (by omega) (by omega) (by omega) (by omega) hdl (by omega) hwu
              · rw [if_neg el]
                by_cases el1 : j + 1 = due j R
                · rw [if_pos (by rw [el1]), if_neg (fun h => el ⟨el1, (nI_ltI (by omega) (by omega)).mp h⟩)] at hhead
                  simp only [bs, ↓reduceIte] at hhead
                  exact ⟨_, fault _ hhead, Or.inl ⟨rfl, Or.inl ⟨_, _, _, _, _, _, rfl⟩⟩⟩
                · rw [if_neg (fun h => el1 (nI_inj (by omega) (by omega) h))] at hhead
                  simp only [bs, ↓reduceIte] at hhead
                  exact ⟨_, fault _ hhead, Or.inl ⟨rfl, Or.inl ⟨_, _, _, _, _, _, rfl⟩⟩⟩
            · rw [if_neg es]
              rw [if_neg es] at hhead
              simp only [bs, ↓reduceIte] at hhead
              exact ⟨_, fault _ hhead, Or.inl ⟨rfl, Or.inl ⟨_, _, _, _, _, _, rfl⟩⟩⟩
        · rw [if_neg hq]
          rw [if_neg (nI_nlt (by omega) (by omega))] at hhead
          unfold f_X8_endWith at hhead
          rw [hdue, bs, show nI j + (1 : Int32) = nI (j + 1) from nI_1 j, show nI i + (1 : Int32) = nI (i + 1) from nI_1 i] at hhead
          by_cases el : j + 1 = due j R ∧ i + 1 = due j R
          · rw [if_pos el]
            rw [if_pos (by rw [el.1]), if_pos (by rw [el.2]), resize_n hd1 hdl, bs, bs] at hhead
            exact ⟨_, fault _ hhead, Or.inr ⟨rfl, hd1, hdl, _, _, _, _, _, _, rfl, hwu⟩⟩
          · rw [if_neg el]
            by_cases el1 : j + 1 = due j R
            · rw [if_pos (by rw [el1]), if_neg (fun h => el ⟨el1, nI_inj (by omega) (by omega) h⟩), bs] at hhead
              exact ⟨_, fault _ hhead, Or.inl ⟨rfl, Or.inl ⟨_, _, _, _, _, _, rfl⟩⟩⟩
            · rw [if_neg (fun h => el1 (nI_inj (by omega) (by omega) h)), bs] at hhead
              exact ⟨_, fault _ hhead, Or.inl ⟨rfl, Or.inl ⟨_, _, _, _, _, _, rfl⟩⟩⟩
    · rw [if_neg e0]
      have hok : okE L t p = false := by
        unfold okE
        have : (en L t p).1 = false := by simpa using e0
        rw [this]
        rfl
      rw [hok, if_pos (show b2i false = 0 from rfl)] at hhead
      exact ⟨_, fault _ hhead, Or.inl ⟨rfl, Or.inl ⟨_, _, _, _, _, _, rfl⟩⟩⟩
