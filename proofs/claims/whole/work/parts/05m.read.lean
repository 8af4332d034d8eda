/-! MATHEMATICS, part m: the model's reader, and read -/
theorem ix7' {r c : Nat} (hr : r < 7) (hc : c < 7) : (7 : Int32) * nI r + nI c = nI (7 * r + c) := by
  show nI 7 * nI r + nI c = nI (7 * r + c)
  rw [pk_mul, nI_add]
def rr (L : Nat) (t : Nat → Int32) (i most : Nat) : Nat → Nat → Nat → (Nat → Int32) → Bool × Nat × Nat × (Nat → Int32)
  | 0, j, p, _ => (false, j, p, fun _ => 0)
  | f + 1, j, p, w =>
    if (en L t p).1 = true then
      if j + 1 < most ∧ chr L t (en L t p).2.1 = 44 then rr L t i most f (j + 1) ((en L t p).2.1 + 1) (upd w (7 * i + j) (en L t p).2.2) else (true, j + 1, (en L t p).2.1, upd w (7 * i + j) (en L t p).2.2)
    else (false, j, (en L t p).2.1, fun _ => 0)
theorem rr_le {L : Nat} {t : Nat → Int32} {i most : Nat} : ∀ (f j p : Nat) (w : Nat → Int32), p ≤ L → (rr L t i most f j p w).2.2.1 ≤ L ∧ ((rr L t i most f j p w).1 = true → j < (rr L t i most f j p w).2.1 ∧ (rr L t i most f j p w).2.1 ≤ j + f) := by
  intro f
  induction f with
  | zero => intro j p w hp; exact ⟨hp, fun h => by cases h⟩
  | succ f ih =>
    intro j p w hp
    have hle := (en_le (t := t) hp).1
    rw [rr]
    by_cases e : (en L t p).1 = true
    · rw [if_pos e]
      by_cases e2 : j + 1 < most ∧ chr L t (en L t p).2.1 = 44
      · rw [if_pos e2]
        have hq : (en L t p).2.1 < L := by
          apply Decidable.byContradiction
          intro hc
          have := e2.2
          unfold chr at this
          rw [if_neg hc] at this
          exact absurd this (by decide)
        have := ih (j + 1) ((en L t p).2.1 + 1) (upd w (7 * i + j) (en L t p).2.2) (by omega)
        refine ⟨this.1, fun h => ?_⟩
        have := this.2 h
        omega
      · rw [if_neg e2]
        exact ⟨hle, fun _ => ⟨by show j < j + 1; omega, by show j + 1 ≤ j + (f + 1); omega⟩⟩
    · rw [if_neg e]
      exact ⟨hle, fun h => by cases h⟩
theorem readRowLoop_n {L i most : Nat} {t : Nat → Int32} (hL : L ≤ 100) (hi : i < 7) (hm : most ≤ 7) : ∀ (f j p : Nat) (w told : Nat → Int32) (fu : Nat), j + f = most → j < most → 2 * f + 1 < fu → p ≤ L → (∀ k, k < 49 → told k = w k) →
    ∃ z, lpN (f_X10_readRow_L1 (nI i) (nI most) (nI L) t) fu (nI j, 1, nI p, told) = some z ∧
      (((rr L t i most f j p w).1 = false ∧ ∃ w', z = .inr (-2000000005, nI (rr L t i most f j p w).2.2.1, w')) ∨
       ((rr L t i most f j p w).1 = true ∧ ∃ w', z = .inl (nI (rr L t i most f j p w).2.1, nI (rr L t i most f j p w).2.2.1, w') ∧ ∀ k, k < 49 → w' k = (rr L t i most f j p w).2.2.2 k)) := by
  intro f
  induction f with
  | zero => intro j p w told fu h1 h2; omega
  | succ f ih =>
    intro j p w told fu h1 h2 hfu hp hw
    obtain ⟨g, rfl⟩ : ∃ g, fu = g + 1 + 1 := ⟨fu - 2, by omega⟩
    obtain ⟨w1, hr1, hr2⟩ := readEntry_n (told := told) (t := t) hL hp (k := 7 * i + j) (by omega)
    have hle := (en_le (t := t) hp).1
    have hhead : f_X10_readRow_L1 (nI i) (nI most) (nI L) t (nI j, 1, nI p, told) = (if (1 : Int32) = 0 then _ else _) := f_X10_readRow_L1.eq_1 ..
    rw [if_neg i10, show (7 : Int32) * nI i + nI j = nI (7 * i + j) from ix7' hi (by omega), hr1, bs] at hhead
    have hend : ∀ (n q : Nat) (w2 : Nat → Int32), f_X10_readRow_L1 (nI i) (nI most) (nI L) t (nI n, 0, nI q, w2) = some (.inr (.inl (nI n, nI q, w2))) := fun n q w2 => by
      rw [f_X10_readRow_L1, if_pos rfl]
    rw [rr]
    by_cases e : (en L t p).1 = true
    · rw [if_pos e]
      rw [e, show b2i true = 1 from rfl] at hhead
      simp only [i10, ↓reduceIte, pl_e] at hhead
      rw [show nI j + (1 : Int32) = nI (j + 1) from nI_1 j] at hhead
      have hwu : ∀ k, k < 49 → w1 k = upd w (7 * i + j) (en L t p).2.2 k := fun k hk => by
        rw [hr2 e, upd_at, upd_at, hw k hk]
      by_cases el : j + 1 < most
      · rw [if_neg (nI_ge el (by omega)), takes_n hL (by omega) (by decide), bs] at hhead
        by_cases ec : chr L t (en L t p).2.1 = 44
        · rw [if_pos ⟨el, ec⟩]
          have hq : (en L t p).2.1 < L := by
            apply Decidable.byContradiction
            intro hc
            unfold chr at ec
            rw [if_neg hc] at ec
            exact absurd ec (by decide)
          rw [decide_eq_true ec, if_pos ec, show b2i true = 1 from rfl] at hhead
          simp only [i10, ↓reduceIte] at hhead
          rw [lp_step hhead]
          exact ih (j + 1) ((en L t p).2.1 + 1) _ _ (g + 1) (by omega) el (by omega) (by omega) hwu
        · rw [if_neg (fun h => ec h.2)]
          rw [decide_eq_false ec, if_neg ec, show b2i false = 0 from rfl] at hhead
          simp only [↓reduceIte] at hhead
          rw [lp_step hhead, lp_end (hend _ _ _)]
          exact ⟨_, rfl, Or.inr ⟨rfl, w1, rfl, hwu⟩⟩
      · rw [if_neg (fun h => el h.1)]
        rw [if_pos (nI_le (by omega) (by omega))] at hhead
        rw [lp_step hhead, lp_end (hend _ _ _)]
        exact ⟨_, rfl, Or.inr ⟨rfl, w1, rfl, hwu⟩⟩
    · rw [if_neg e]
      have e' : (en L t p).1 = false := by simpa using e
      rw [e', show b2i false = 0 from rfl] at hhead
      simp only [↓reduceIte] at hhead
      rw [lp_end hhead]
      exact ⟨_, rfl, Or.inl ⟨rfl, w1, rfl⟩⟩
theorem readRow_n {L i most p : Nat} {t told w : Nat → Int32} (hL : L ≤ 100) (hi : i < 7) (hm : most ≤ 7) (hm1 : 1 ≤ most) (hp : p ≤ L) (hw : ∀ k, k < 49 → told k = w k) :
    ∃ w', ((rr L t i most most 0 p w).1 = false ∧ f_X10_readRow (nI L) (nI p) t told (nI i) (nI most) = some (-2000000005, nI (rr L t i most most 0 p w).2.2.1, w')) ∨
      ((rr L t i most most 0 p w).1 = true ∧ f_X10_readRow (nI L) (nI p) t told (nI i) (nI most) = some (nI (rr L t i most most 0 p w).2.1, nI (rr L t i most most 0 p w).2.2.1, w') ∧ ∀ k, k < 49 → w' k = (rr L t i most most 0 p w).2.2.2 k) := by
  obtain ⟨z, h1, h2⟩ := readRowLoop_n (t := t) hL hi hm most 0 p w told FU (by omega) (by omega) (by show 2 * most + 1 < 100000; omega) hp hw
  unfold f_X10_readRow
  have h1' : lpN (f_X10_readRow_L1 (nI i) (nI most) (nI L) t) FU ((0 : Int32), (1 : Int32), nI p, told) = some z := h1
  rw [h1', bs]
  rcases h2 with ⟨h3, w', rfl⟩ | ⟨h3, w', rfl, h4⟩
  · exact ⟨w', Or.inl ⟨h3, rfl⟩⟩
  · exact ⟨w', Or.inr ⟨h3, rfl, h4⟩⟩
/-- behind a row of n entries that ended at q -/
def aft (L : Nat) (t : Nat → Int32) (f i n R q : Nat) (w : Nat → Int32) : Bool × Nat × (Nat → Int32) :=
  if q < L then
    if chr L t q = 47 then
      if n = R ∧ i + 1 < R then rd L t f (i + 1) 0 R (q + 1) w else (false, q, fun _ => 0)
    else (false, q, fun _ => 0)
  else if n = R ∧ i + 1 = R then (true, R, w) else (false, q, fun _ => 0)
theorem rd_rr {L : Nat} {t : Nat → Int32} : ∀ (g f i j R p : Nat) (w : Nat → Int32), g ≤ f → j + g = (if R = 0 then 7 else R) → 0 < g →
    ((rr L t i (if R = 0 then 7 else R) g j p w).1 = false → rd L t f i j R p w = (false, (rr L t i (if R = 0 then 7 else R) g j p w).2.2.1, fun _ => 0)) ∧
    ((rr L t i (if R = 0 then 7 else R) g j p w).1 = true → rd L t f i j R p w = aft L t (f - ((rr L t i (if R = 0 then 7 else R) g j p w).2.1 - j)) i (rr L t i (if R = 0 then 7 else R) g j p w).2.1 (if R = 0 then (rr L t i (if R = 0 then 7 else R) g j p w).2.1 else R) (rr L t i (if R = 0 then 7 else R) g j p w).2.2.1 (rr L t i (if R = 0 then 7 else R) g j p w).2.2.2) := by
  intro g
  induction g with
  | zero => intro f i j R p w _ _ h; omega
  | succ g ih =>
    intro f i j R p w hgf hj _
    obtain ⟨f', rfl⟩ : ∃ f', f = f' + 1 := ⟨f - 1, by omega⟩
    rw [rr, rd]
    by_cases e : (en L t p).1 = true
    · rw [if_pos e, if_pos e]
      by_cases e2 : j + 1 < (if R = 0 then 7 else R) ∧ chr L t (en L t p).2.1 = 44
      · rw [if_pos e2]
        have hq : (en L t p).2.1 < L := by
          apply Decidable.byContradiction
          intro hc
          have := e2.2
          unfold chr at this
          rw [if_neg hc] at this
          exact absurd this (by decide)
        rw [if_pos hq, if_pos e2.2, if_pos e2.1]
        have h9 := ih f' i (j + 1) R ((en L t p).2.1 + 1) (upd w (7 * i + j) (en L t p).2.2) (by omega) (by omega) (by omega)
        refine ⟨h9.1, fun h => ?_⟩
        rw [h9.2 h]
        have hb := (rr_le (L := L) (t := t) (i := i) (most := if R = 0 then 7 else R) g (j + 1) ((en L t p).2.1 + 1) (upd w (7 * i + j) (en L t p).2.2) (by omega)).2 h
        congr 1
        omega
      · rw [if_neg e2]
        refine ⟨fun h => (by cases h), fun _ => ?_⟩
        unfold aft
        have hfs : f' + 1 - (j + 1 - j) = f' := by omega
        simp only [hfs]
        have hdue : (if R = 0 then j + 1 else R) = due j R := rfl
        rw [hdue]
        by_cases hq : (en L t p).2.1 < L
        · rw [if_pos hq, if_pos hq]
          by_cases ec : chr L t (en L t p).2.1 = 44
          · rw [if_pos ec, if_neg (fun h => e2 ⟨h, ec⟩), if_neg (by rw [ec]; decide)]
          · rw [if_neg ec]
        · rw [if_neg hq, if_neg hq]
    · rw [if_neg e, if_neg e]
      exact ⟨fun _ => rfl, fun h => by cases h⟩
theorem rowsLoop_n {L R : Nat} {t : Nat → Int32} (hL : L ≤ 100) (h1 : 1 ≤ R) (hR : R ≤ 7) : ∀ (d i q f : Nat) (w told : Nat → Int32) (fu : Nat), i + d = R → 1 ≤ i → R * d ≤ f → d < fu → q ≤ L → (∀ k, k < 49 → told k = w k) →
    ∃ z, lpN (f_X10_readText_L2 (nI L) (nI R) t) fu (nI i, nI q, told) = some z ∧
      (((aft L t f (i - 1) R R q w).1 = false ∧ ((∃ w', z = .inr (0, nI (aft L t f (i - 1) R R q w).2.1, nI R, w')) ∨ ∃ q' w', z = .inl (nI q', w') ∧ q' < L ∧ (aft L t f (i - 1) R R q w).2.1 = q')) ∨
       ((aft L t f (i - 1) R R q w).1 = true ∧ (aft L t f (i - 1) R R q w).2.1 = R ∧ ∃ w', z = .inl (nI L, w') ∧ ∀ k, k < 49 → w' k = (aft L t f (i - 1) R R q w).2.2 k)) := by
  intro d
  induction d with
  | zero =>
    intro i q f w told fu hi hi1 hf hfu hq hw
    obtain ⟨g, rfl⟩ : ∃ g, fu = g + 1 := ⟨fu - 1, by omega⟩
    have : i = R := by omega
    subst this
    have hhead : f_X10_readText_L2 (nI L) (nI i) t (nI i, nI q, told) = some (.inr (.inl (nI q, told))) := by
      rw [f_X10_readText_L2, if_pos (nI_le (Nat.le_refl _) (by omega))]
    rw [lp_end hhead]
    unfold aft
    by_cases e : q < L
    · rw [if_pos e]
      rw [if_neg (show ¬ (i = i ∧ i - 1 + 1 < i) by omega)]
      have hx : (if chr L t q = 47 then ((false, q, fun _ => 0) : Bool × Nat × (Nat → Int32)) else (false, q, fun _ => 0)) = (false, q, fun _ => 0) := by split <;> rfl
      rw [hx]
      exact ⟨_, rfl, Or.inl ⟨rfl, Or.inr ⟨q, told, rfl, e, rfl⟩⟩⟩
    · rw [if_neg e, if_pos (show i = i ∧ i - 1 + 1 = i by omega)]
      have : q = L := by omega
      subst this
      exact ⟨_, rfl, Or.inr ⟨rfl, rfl, told, rfl, hw⟩⟩
  | succ d ih =>
    intro i q f w told fu hi hi1 hf hfu hq hw
    obtain ⟨g, rfl⟩ : ∃ g, fu = g + 1 := ⟨fu - 1, by omega⟩
    have hiR : i < R := by omega
    have hhead : f_X10_readText_L2 (nI L) (nI R) t (nI i, nI q, told) = (if nI R ≤ nI i then _ else _) := f_X10_readText_L2.eq_1 ..
    rw [if_neg (nI_ge hiR (by omega)), takes_n hL (by omega) (by decide), bs] at hhead
    have hRd : R * (d + 1) = R * d + R := by rw [Nat.mul_add, Nat.mul_one]
    unfold aft
    by_cases e : chr L t q = 47
    · have hq' : q < L := by
        apply Decidable.byContradiction
        intro hc
        unfold chr at e
        rw [if_neg hc] at e
        exact absurd e (by decide)
      rw [if_pos hq', if_pos e, if_pos (show R = R ∧ i - 1 + 1 < R by omega), show i - 1 + 1 = i by omega]
      rw [decide_eq_true e, if_pos e, show b2i true = 1 from rfl] at hhead
      simp only [i10, ↓reduceIte] at hhead
      have hrd := rd_rr (L := L) (t := t) R f i 0 R (q + 1) w (by omega) (by rw [if_neg (by omega)]; omega) (by omega)
      simp only [if_neg (show ¬ R = 0 by omega)] at hrd
      obtain ⟨w', hrow⟩ := readRow_n (L := L) (i := i) (most := R) (p := q + 1) (t := t) (told := told) (w := w) hL (by omega) hR h1 (by omega) hw
      have hle := rr_le (L := L) (t := t) (i := i) (most := R) R 0 (q + 1) w (by omega)
      rcases hrow with ⟨h2, h3⟩ | ⟨h2, h3, h4⟩
      · rw [h3] at hhead
        simp only [bs] at hhead
        rw [if_neg (show ¬ (-2000000005 : Int32) = nI R from fun hc => by
          have h9 : (-2000000005 : Int32).toInt = (nI R).toInt := congrArg Int32.toInt hc
          rw [nI_toInt (by omega)] at h9
          have h10 : (-2000000005 : Int32).toInt = -2000000005 := by decide
          omega)] at hhead
        rw [hrd.1 h2, lp_end hhead]
        exact ⟨_, rfl, Or.inl ⟨rfl, Or.inl ⟨w', rfl⟩⟩⟩
      · rw [h3] at hhead
        simp only [bs] at hhead
        rw [hrd.2 h2]
        have hn := hle.2 h2
        by_cases en : (rr L t i R R 0 (q + 1) w).2.1 = R
        · rw [en] at hhead ⊢
          rw [if_pos rfl, pl_e, show nI i + (1 : Int32) = nI (i + 1) from nI_1 i] at hhead
          rw [lp_step hhead]
          have := ih (i + 1) (rr L t i R R 0 (q + 1) w).2.2.1 (f - (R - 0)) (rr L t i R R 0 (q + 1) w).2.2.2 w' g (by omega) (by omega) (by omega) (by omega) hle.1 h4
          rw [show i + 1 - 1 = i by omega] at this
          exact this
        · rw [if_neg (fun h => en (nI_inj (by omega) (by omega) h))] at hhead
          rw [lp_end hhead]
          have hx : aft L t (f - ((rr L t i R R 0 (q + 1) w).2.1 - 0)) i (rr L t i R R 0 (q + 1) w).2.1 R (rr L t i R R 0 (q + 1) w).2.2.1 (rr L t i R R 0 (q + 1) w).2.2.2 = (false, (rr L t i R R 0 (q + 1) w).2.2.1, fun _ => 0) := by
            unfold aft
            simp only [en, false_and, ↓reduceIte, ite_self]
          rw [hx]
          exact ⟨_, rfl, Or.inl ⟨rfl, Or.inl ⟨w', rfl⟩⟩⟩
    · rw [decide_eq_false e, if_neg e, show b2i false = 0 from rfl] at hhead
      simp only [↓reduceIte] at hhead
      rw [lp_end hhead, if_neg e, if_neg (show ¬ (R = R ∧ i - 1 + 1 = R) by omega)]
      have hx : (if q < L then ((false, q, fun _ => 0) : Bool × Nat × (Nat → Int32)) else (false, q, fun _ => 0)) = (false, q, fun _ => 0) := by split <;> rfl
      rw [hx]
      exact ⟨_, rfl, Or.inl ⟨rfl, Or.inl ⟨told, rfl⟩⟩⟩
/-- what the reading leaves: nothing outside of the matrix, all entries in their range -/
theorem rd_ok {L : Nat} {t : Nat → Int32} : ∀ (f i j R p : Nat) (w : Nat → Int32), p ≤ L → i < 7 → j < 7 → R ≤ 7 → (R = 0 → i = 0) → (R ≠ 0 → j < R) → (∀ r q, r < 7 → q < 7 → ¬ (r < i ∧ q < R) → ¬ (r = i ∧ q < j) → w (7 * r + q) = 0) → (∀ k, k < 49 → -20 ≤ (w k).toInt ∧ (w k).toInt ≤ 20) → (rd L t f i j R p w).1 = true →
    (∀ r q, r < 7 → q < 7 → ((rd L t f i j R p w).2.1 ≤ r ∨ (rd L t f i j R p w).2.1 ≤ q) → (rd L t f i j R p w).2.2 (7 * r + q) = 0) ∧ ∀ k, k < 49 → -20 ≤ ((rd L t f i j R p w).2.2 k).toInt ∧ ((rd L t f i j R p w).2.2 k).toInt ≤ 20 := by
  intro f
  induction f with
  | zero => intro i j R p w _ _ _ _ _ _ _ _ h; cases h
  | succ f ih =>
    intro i j R p w hp hi hj hR hR0 hRj hz hb h
    have hle := en_le (t := t) hp
    rw [rd] at h ⊢
    by_cases e : (en L t p).1 = true
    · rw [if_pos e] at h ⊢
      have hbu : ∀ k, k < 49 → -20 ≤ (upd w (7 * i + j) (en L t p).2.2 k).toInt ∧ (upd w (7 * i + j) (en L t p).2.2 k).toInt ≤ 20 := fun k hk => by
        rw [upd_at]
        split
        · exact hle.2 e
        · exact hb k hk
      by_cases hq : (en L t p).2.1 < L
      · rw [if_pos hq] at h ⊢
        by_cases ec : chr L t (en L t p).2.1 = 44
        · rw [if_pos ec] at h ⊢
          by_cases el : j + 1 < (if R = 0 then 7 else R)
          · rw [if_pos el] at h ⊢
            refine ih i (j + 1) R _ _ (by omega) hi (by split at el <;> omega) hR hR0 (fun h => by rw [if_neg h] at el; exact el) (fun r q hr hq h1 h2 => ?_) hbu h
            rw [upd_at, if_neg (by omega)]
            exact hz r q hr hq h1 (by omega)
          · rw [if_neg el] at h
            cases h
        · rw [if_neg ec] at h ⊢
          by_cases es : chr L t (en L t p).2.1 = 47
          · rw [if_pos es] at h ⊢
            by_cases el : j + 1 = due j R ∧ i + 1 < due j R
            · rw [if_pos el] at h ⊢
              have hd : due j R ≤ 7 := by unfold due; split <;> omega
              refine ih (i + 1) 0 (due j R) _ _ (by omega) (by omega) (by omega) hd (by omega) (by omega) (fun r q hr hq h1 h2 => ?_) hbu h
              rw [upd_at, if_neg (by omega)]
              refine hz r q hr hq (fun hc => h1 ?_) (by omega)
              unfold due at el ⊢
              split at el
              · omega
              · rename_i hne
                rw [if_neg hne]
                omega
            · rw [if_neg el] at h
              cases h
          · rw [if_neg es] at h
            cases h
      · rw [if_neg hq] at h ⊢
        by_cases el : j + 1 = due j R ∧ i + 1 = due j R
        · rw [if_pos el] at h ⊢
          refine ⟨fun r q hr hq hx => ?_, hbu⟩
          show upd w (7 * i + j) (en L t p).2.2 (7 * r + q) = 0
          have hx' : due j R ≤ r ∨ due j R ≤ q := hx
          rw [upd_at, if_neg (by omega)]
          refine hz r q hr hq (fun hc => ?_) (by omega)
          unfold due at el hx'
          split at el
          · omega
          · rename_i hne
            rw [if_neg hne] at hx'
            omega
        · rw [if_neg el] at h
          cases h
    · rw [if_neg e] at h
      cases h
theorem mreadText_n {L : Nat} {t told : Nat → Int32} (sp tr : Int32) (hL : L ≤ 100) :
    ∃ tr' w', ((rd L t 49 0 0 0 0 (fun _ => 0)).1 = false ∧ f_X10_readText (nI L) sp tr t told = some (0, nI (rd L t 49 0 0 0 0 (fun _ => 0)).2.1, tr', w')) ∨
      ((rd L t 49 0 0 0 0 (fun _ => 0)).1 = true ∧ f_X10_readText (nI L) sp tr t told = some (1, nI L, nI (rd L t 49 0 0 0 0 (fun _ => 0)).2.1, w') ∧ ∀ k, k < 49 → w' k = (rd L t 49 0 0 0 0 (fun _ => 0)).2.2 k) := by
  have hz : ∃ w0, lpN f_X10_readText_L1 FU ((0 : Int32), told) = some w0 ∧ ∀ k, k < 49 → w0 k = 0 := by
    have h := lp_cntE (body := f_X10_readText_L1) (fun j w => ∀ k, k < j → w k = 0) 49 (fun w => ∀ k, k < 49 → w k = 0) (fun j w hj hI => by
      rw [f_X10_readText_L1, if_neg (show ¬ (49 : Int32) ≤ nI j from nI_ge (b := 49) hj (by omega))]
      simp (disch := omega) only [lit32, bs, pl_e, gd_okI, nI_leI, nI_ltI, nI_eq, nI_add, pk_mul, pk_sub, nI_m1', nI_clamp, if_pos, if_neg, ↓reduceIte]
      refine ⟨_, rfl, fun k hk => ?_⟩
      rw [upd_at]
      split
      · rfl
      · exact hI k (by omega)) (fun w hI => by
      rw [f_X10_readText_L1, if_pos (show (49 : Int32) ≤ nI 49 by decide)]
      exact ⟨w, rfl, hI⟩) told (fun k hk => absurd hk (Nat.not_lt_zero _)) (by omega)
    exact h
  obtain ⟨w0, hw0, hw1⟩ := hz
  unfold f_X10_readText
  rw [hw0, bs]
  have hrd := rd_rr (L := L) (t := t) 7 49 0 0 0 0 (fun _ => 0) (by omega) rfl (by omega)
  rw [if_pos (show (0 : Nat) = 0 from rfl)] at hrd
  obtain ⟨w', hrow⟩ := readRow_n (L := L) (i := 0) (most := 7) (p := 0) (t := t) (told := w0) (w := fun _ => 0) hL (by omega) (by omega) (by omega) (Nat.zero_le _) hw1
  have hle := rr_le (L := L) (t := t) (i := 0) (most := 7) 7 0 0 (fun _ => 0) (Nat.zero_le _)
  rcases hrow with ⟨h2, h3⟩ | ⟨h2, h3, h4⟩
  · have h3' : f_X10_readRow (nI L) (0 : Int32) t w0 (0 : Int32) (7 : Int32) = _ := h3
    rw [h3', hrd.1 h2]
    simp only [bs]
    exact ⟨_, w', Or.inl ⟨by trivial, rfl⟩⟩
  · have h3' : f_X10_readRow (nI L) (0 : Int32) t w0 (0 : Int32) (7 : Int32) = _ := h3
    have hn := hle.2 h2
    rw [h3', hrd.2 h2]
    simp only [bs]
    generalize hN : (rr L t 0 7 7 0 0 (fun _ => 0)).2.1 = N at *
    generalize hQ : (rr L t 0 7 7 0 0 (fun _ => 0)).2.2.1 = Q at *
    generalize hW : (rr L t 0 7 7 0 0 (fun _ => 0)).2.2.2 = W0 at *
    rw [if_neg (show ¬ nI N = (-2000000005 : Int32) from fun hc => by
      have h9 : (nI N).toInt = (-2000000005 : Int32).toInt := congrArg Int32.toInt hc
      rw [nI_toInt (by omega)] at h9
      have h10 : (-2000000005 : Int32).toInt = -2000000005 := by decide
      omega)]
    have hmul : N * (N - 1) ≤ 49 - (N - 0) := by
      have : N = 1 ∨ N = 2 ∨ N = 3 ∨ N = 4 ∨ N = 5 ∨ N = 6 ∨ N = 7 := by omega
      rcases this with e | e | e | e | e | e | e <;> rw [e] <;> decide
    obtain ⟨z, hz1, hz2⟩ := rowsLoop_n (t := t) hL (R := N) (by omega) (by omega) (N - 1) 1 Q (49 - (N - 0)) W0 w' FU (by omega) (by omega) hmul (by show N - 1 < 100000; omega) hle.1 h4
    have hz1' : lpN (f_X10_readText_L2 (nI L) (nI N) t) FU ((1 : Int32), nI Q, w') = some z := hz1
    rw [hz1', bs]
    rw [show 1 - 1 = 0 from rfl] at hz2
    rw [if_pos trivial]
    rcases hz2 with ⟨g1, ⟨w9, rfl⟩ | ⟨q9, w9, rfl, g2, g3⟩⟩ | ⟨g1, g2, w9, rfl, g3⟩
    · exact ⟨_, w9, Or.inl ⟨g1, rfl⟩⟩
    · simp only []
      rw [if_neg (fun h => by have := nI_inj (by omega) (by omega) h; omega), g3]
      exact ⟨_, w9, Or.inl ⟨g1, rfl⟩⟩
    · simp only []
      rw [if_pos trivial, g2]
      exact ⟨0, w9, Or.inr ⟨g1, rfl, g3⟩⟩
theorem st_read {n o c L : Nat} {S : Nat → Int32} {C : Nat → Nat → Int32} {past m z ch tx : Nat → Int32} (hM : Mx n m z) (hH : HI o c S C past) (hL : L ≤ 100) (hct : ∀ k, k < L → ch k = tx k) (ns : Int32) (nc told : Nat → Int32) (p1 p2 p3 p4 p5 sp tr : Int32) :
    ∃ r n' m' ns' nc' o' c' S' C' z' past' q1 q2 q3 q4 q5 sp' tr' told', f_X9_read (nI n) m ns nc (nI o) (nI c) (S 0) (C 0) (S 1) (C 1) (S 2) (C 2) (S 3) (C 3) (nI L) ch p1 p2 p3 p4 p5 = some (r, nI n', m', ns', nc', nI o', nI c', S' 0, C' 0, S' 1, C' 1, S' 2, C' 2, S' 3, C' 3, q1, q2, q3, q4, q5) ∧ f_X10_read (nI c) (nI L) sp tr z past tx told = some (r, nI c', sp', tr', z', past', told') ∧ Mx n' m' z' ∧ HI o' c' S' C' past' := by
  have hct' : ∀ k, chr L ch k = chr L tx k := fun k => by
    unfold chr
    split
    · rename_i h; exact hct k h
    · rfl
  have hen : ∀ p, en L ch p = en L tx p := fun p => by unfold en; simp only [hct']
  have hrd : ∀ f i j R p w, rd L ch f i j R p w = rd L tx f i j R p w := by
    intro f
    induction f with
    | zero => intros; rfl
    | succ f ih => intro i j R p w; rw [rd, rd]; simp only [hen, hct', ih]
  obtain ⟨w, hw1, hw2⟩ := fill_n (n := 7) (by omega) (by omega) ns nc
  obtain ⟨zz, hz1, hz2⟩ := deskLoop_n (t := ch) hL 49 0 0 0 0 0 (fun _ => 0) w 0 FU (by omega) (by show 49 < 100000; omega) (by omega) (by omega) (by omega) (Nat.zero_le _) hw2
  rw [hrd] at hz2
  obtain ⟨tr', w', hm⟩ := mreadText_n (t := tx) (told := told) sp tr hL
  have hok := rd_ok (L := L) (t := tx) 49 0 0 0 0 (fun _ => 0) (Nat.zero_le _) (by omega) (by omega) (by omega) (fun _ => rfl) (fun h => absurd rfl h) (fun _ _ _ _ _ _ => rfl) (fun _ _ => by decide)
  have hqle : (rd L tx 49 0 0 0 0 (fun _ => 0)).2.1 < 2 ^ 20 := by
    have hgen : ∀ f i j R p w, p ≤ L → j < 7 → R ≤ 7 → (rd L tx f i j R p w).2.1 < 2 ^ 20 := by
      intro f
      induction f with
      | zero => intro i j R p w hp _ _; show p < _; omega
      | succ f ih =>
        intro i j R p w hp hj hR
        have hle := (en_le (t := tx) hp).1
        rw [rd]
        have hd : due j R ≤ 7 := by unfold due; split <;> omega
        have hf : ((false, (en L tx p).2.1, fun _ => 0) : Bool × Nat × (Nat → Int32)).2.1 < 2 ^ 20 := by show (en L tx p).2.1 < 2 ^ 20; omega
        by_cases e1 : (en L tx p).1 = true
        · rw [if_pos e1]
          by_cases e2 : (en L tx p).2.1 < L
          · rw [if_pos e2]
            by_cases e3 : chr L tx (en L tx p).2.1 = 44
            · rw [if_pos e3]
              by_cases e4 : j + 1 < (if R = 0 then 7 else R)
              · rw [if_pos e4]
                exact ih _ _ _ _ _ (by omega) (by
                  have : (if R = 0 then 7 else R) ≤ 7 := by split <;> omega
                  omega) hR
              · rw [if_neg e4]; exact hf
            · rw [if_neg e3]
              by_cases e4 : chr L tx (en L tx p).2.1 = 47
              · rw [if_pos e4]
                by_cases e5 : j + 1 = due j R ∧ i + 1 < due j R
                · rw [if_pos e5]
                  exact ih _ _ _ _ _ (by omega) (by omega) hd
                · rw [if_neg e5]; exact hf
              · rw [if_neg e4]; exact hf
          · rw [if_neg e2]
            by_cases e5 : j + 1 = due j R ∧ i + 1 = due j R
            · rw [if_pos e5]; show due j R < 2 ^ 20; omega
            · rw [if_neg e5]; exact hf
        · rw [if_neg e1]; exact hf
    exact hgen 49 0 0 0 0 _ (Nat.zero_le _) (by omega) (by omega)
  unfold f_X9_read f_X10_read f_X8_readInto f_X8_start
  simp only [bs]
  have hw1' : f_X4_fillWithZeros ns nc (7 : Int32) = some (nI 7, w) := hw1
  rw [hw1']
  simp only [bs]
  have hz1' : lpN (f_X8_readInto_L1 (nI 7) (nI L) ch) FU ((0 : Int32), (0 : Int32), (0 : Int32), (0 : Int32), (0 : Int32), (0 : Int32), w) = some zz := hz1
  rw [hz1', bs]
  generalize hX : rd L tx 49 0 0 0 0 (fun _ => 0) = X at *
  have hnm : ¬ nI X.2.1 = (-1 : Int32) := fun hc => by
    have h9 : (nI X.2.1).toInt = (-1 : Int32).toInt := congrArg Int32.toInt hc
    rw [nI_toInt (by omega)] at h9
    have h10 : (-1 : Int32).toInt = -1 := by decide
    omega
  rcases hz2 with ⟨g1, g2⟩ | ⟨g1, g2, g3, a, b, c9, d, v', w9, rfl, g4⟩
  · rcases hm with ⟨-, hm⟩ | ⟨hm, -⟩
    · rw [hm, bs]
      rcases g2 with ⟨a, b, c9, d, v', w9, rfl⟩ | ⟨b, c9, d, v', w9, rfl⟩
      · simp only [bs]
        rw [if_neg hnm, if_pos trivial]
        exact ⟨_, n, m, _, _, o, c, S, C, z, past, _, _, _, _, _, _, _, _, rfl, rfl, hM, hH⟩
      · simp only [bs]
        rw [if_neg hnm, if_pos trivial]
        exact ⟨_, n, m, _, _, o, c, S, C, z, past, _, _, _, _, _, _, _, _, rfl, rfl, hM, hH⟩
    · rw [g1] at hm; cases hm
  · rcases hm with ⟨hm, -⟩ | ⟨-, hm, hm2⟩
    · rw [g1] at hm; cases hm
    · rw [hm, bs]
      simp only [bs]
      rw [if_pos trivial, if_neg i10]
      obtain ⟨o', c', S', C', past', m', k1, k2, k3, k4, k5⟩ := chgNext_n (n2 := X.2.1) (nc := w9) hM hH
      rw [k1, k3]
      simp only [bs, f_X4_size]
      rw [show f_X10_copyRow 49 50 w' z (0 : Int32) (0 : Int32) (49 : Int32) = _ from copyRow_n (n1 := 49) (n3 := 50) (sp := 0) (dp := 0) (m := 49) w' z (by omega) (by omega) (by omega) (by omega), bs, gd_t (by decide), pl_e]
      have hcell : ∀ k, k < 49 → upd (va_cpy w' z 0 0 49) (49 : Int32).toNatClampNeg (nI X.2.1) k = X.2.2 k := fun k hk => by
        show (if k = 49 then _ else va_cpy w' z 0 0 49 k) = _
        rw [if_neg (by omega), cpy49 _ _ hk, hm2 k hk]
      obtain ⟨ok1, ok2⟩ := hok g1
      refine ⟨nI X.2.1, X.2.1, m', _, _, o', c', S', C', _, past', _, _, _, _, _, _, _, _, rfl, rfl, ⟨g2, g3, fun k hk => by rw [k5 k hk, g4 k hk, hcell k hk], rfl, fun r q hr hq hx => ?_, fun k hk => ?_⟩, k4⟩
      · rw [hcell _ (by omega)]
        exact ok1 r q hr hq hx
      · rw [hcell k hk]
        exact ok2 k hk
