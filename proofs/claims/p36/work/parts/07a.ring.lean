/-! MATHEMATICS: permanents and determinants under changes of rows and columns -/
theorem sL_split {S : Nat → Bool} {r : Nat} (hS : S r = true) (G : Nat → Int64) : ∀ n, r < n → sL (fun a => if S a then G a else 0) n = G r + sL (fun a => if dl S r a then G a else 0) n := by
  have key : ∀ n, n ≤ r → sL (fun a => if S a then G a else 0) n = sL (fun a => if dl S r a then G a else 0) n := by
    intro n hn
    refine sL_congr (fun a ha => ?_)
    rw [dl_at (show a ≠ r by omega)]
  intro n
  induction n with
  | zero => intro h; omega
  | succ n ih =>
    intro h
    rw [sL, sL]
    by_cases e : n = r
    · subst e
      rw [key n (Nat.le_refl _), if_pos hS, dl_self, if_neg (by decide)]
      grind
    · rw [ih (by omega), dl_at e]
      grind
theorem sL_iff (P Q : Nat → Bool) (G : Nat → Int64) (n : Nat) (h : ∀ a, a < n → P a = Q a) : sL (fun a => if P a then G a else 0) n = sL (fun a => if Q a then G a else 0) n := sL_congr (fun a ha => by rw [h a ha])
def sgb (b : Bool) : Int64 := if b then -1 else 1
theorem sgb_sq (b : Bool) : sgb b * sgb b = 1 := by cases b <;> rfl
theorem sg_succ (k : Nat) : sg (k + 1) = - sg k := by
  unfold sg
  by_cases h : k % 2 = 0
  · rw [if_pos h, if_neg (by omega)]
  · rw [if_neg h, if_pos (by omega)]
    decide
theorem wt_swap (b : Bool) {S : Nat → Bool} {a c : Nat} (ha : a < 7) (hc : c < 7) (hac : a ≠ c) (hSa : S a = true) (hSc : S c = true) : wt b S a * wt b (dl S a) c = sgb b * (wt b S c * wt b (dl S c) a) := by
  cases b with
  | false => rfl
  | true =>
    show sg (ltc S a) * sg (ltc (dl S a) c) = -1 * (sg (ltc S c) * sg (ltc (dl S c) a))
    have e1 := cntB_dl (R := fun x => decide (x < c)) hSa 7
    have e2 := cntB_dl (R := fun x => decide (x < a)) hSc 7
    change ltc (dl S a) c + _ = ltc S c at e1
    change ltc (dl S c) a + _ = ltc S a at e2
    by_cases h : a < c
    · rw [if_pos ⟨ha, by simpa using h⟩] at e1
      rw [if_neg (fun hh => by have := hh.2; simp at this; omega), Nat.add_zero] at e2
      rw [← e1, ← e2, sg_succ]
      grind
    · rw [if_neg (fun hh => h (by simpa using hh.2)), Nat.add_zero] at e1
      rw [if_pos ⟨hc, by simp; omega⟩] at e2
      rw [← e1, ← e2, sg_succ]
      grind
/-- the least member of a set -/
theorem wt_min (b : Bool) {S : Nat → Bool} {r : Nat} (hm : ∀ x, x < r → S x = false) : wt b S r = 1 := by
  cases b with
  | false => rfl
  | true =>
    show sg (ltc S r) = 1
    have : ltc S r = 0 := cntB_false (fun x _ => by
      by_cases h : x < r
      · rw [hm x h]; rfl
      · rw [decide_eq_false h, Bool.and_false])
    rw [this]
    rfl
theorem wt_up (b : Bool) {S : Nat → Bool} {r a : Nat} (hr : r < 7) (hS : S r = true) (hm : ∀ x, x < r → S x = false) (ha : dl S r a = true) : wt b S a = sgb b * wt b (dl S r) a := by
  have har : r < a := by
    apply Decidable.byContradiction
    intro h
    by_cases e : a = r
    · subst e
      rw [dl_self] at ha
      cases ha
    · rw [dl_at e, hm a (by omega)] at ha
      cases ha
  cases b with
  | false => rfl
  | true =>
    show sg (ltc S a) = -1 * sg (ltc (dl S r) a)
    have e1 := cntB_dl (R := fun x => decide (x < a)) hS 7
    change ltc (dl S r) a + _ = ltc S a at e1
    rw [if_pos ⟨hr, by simpa using har⟩] at e1
    rw [← e1, sg_succ]
    grind
theorem dl_t {S : Nat → Bool} {r a : Nat} : dl S r a = true ↔ S a = true ∧ a ≠ r := by
  unfold dl
  simp
theorem Bk_two (w : (Nat → Bool) → Nat → Int64) (cell : Nat → Nat → Int64) (x y : Nat) (rs : List Nat) (S : Nat → Bool) : Bk w cell (x :: y :: rs) S = sL (fun a => sL (fun c => if S a = true ∧ S c = true ∧ a ≠ c then w S a * w (dl S a) c * (cell x a * cell y c * Bk w cell rs (dl (dl S a) c)) else 0) 7) 7 := by
  rw [Bk]
  refine sL_congr (fun a ha => ?_)
  by_cases hS : S a = true
  · rw [if_pos hS, Bk, ← sL_mul]
    refine sL_congr (fun c hc => ?_)
    by_cases hac : a = c
    · subst hac
      rw [if_neg (by rw [dl_self]; decide), if_neg (by simp)]
      grind
    · rw [dl_at (Ne.symm hac)]
      by_cases h2 : S c = true
      · rw [if_pos h2, if_pos ⟨hS, h2, hac⟩]
        grind
      · rw [if_neg h2, if_neg (fun h => h2 h.2.1)]
        grind
  · rw [if_neg hS]
    have : (fun c => if S a = true ∧ S c = true ∧ a ≠ c then w S a * w (dl S a) c * (cell x a * cell y c * Bk w cell rs (dl (dl S a) c)) else 0) = fun _ => 0 := by
      funext c
      rw [if_neg (fun h => hS h.1)]
    rw [this, sL_zero]
theorem Bk_swap2 (b : Bool) (cell : Nat → Nat → Int64) (x y : Nat) (rs : List Nat) (S : Nat → Bool) : Bk (wt b) cell (x :: y :: rs) S = sgb b * Bk (wt b) cell (y :: x :: rs) S := by
  rw [Bk_two, Bk_two, sL_swap, ← sL_mul]
  refine sL_congr (fun c hc => ?_)
  rw [← sL_mul]
  refine sL_congr (fun a ha => ?_)
  by_cases h : S a = true ∧ S c = true ∧ a ≠ c
  · rw [if_pos h, if_pos ⟨h.2.1, h.1, Ne.symm h.2.2⟩, wt_swap b ha hc h.2.2 h.1 h.2.1, dl_comm S a c]
    grind
  · rw [if_neg h, if_neg (fun g => h ⟨g.2.1, g.1, Ne.symm g.2.2⟩)]
    grind
theorem Bk_lin (w : (Nat → Bool) → Nat → Int64) (cell : Nat → Nat → Int64) {L L' : List Nat} {k : Int64} (h : ∀ S, Bk w cell L S = k * Bk w cell L' S) : ∀ (P : List Nat) (S : Nat → Bool), Bk w cell (P ++ L) S = k * Bk w cell (P ++ L') S := by
  intro P
  induction P with
  | nil => exact h
  | cons x P ih =>
    intro S
    rw [List.cons_append, List.cons_append, Bk, Bk, ← sL_mul]
    refine sL_congr (fun a ha => ?_)
    by_cases hS : S a = true
    · rw [if_pos hS, if_pos hS, ih]
      grind
    · rw [if_neg hS, if_neg hS]
      grind
theorem Bk_perm (cell : Nat → Nat → Int64) {rs rs' : List Nat} (h : rs.Perm rs') : ∀ S, Bk (wt false) cell rs S = Bk (wt false) cell rs' S := by
  induction h with
  | nil => intro S; rfl
  | cons x _ ih =>
    intro S
    rw [Bk, Bk]
    exact sL_congr (fun a _ => by rw [ih])
  | swap x y l =>
    intro S
    rw [Bk_swap2]
    show 1 * _ = _
    grind
  | trans _ _ ih1 ih2 => intro S; rw [ih1, ih2]
/-- a row that is moved behind others, and a power of the sign -/
def pwb (b : Bool) : Nat → Int64
  | 0 => 1
  | n + 1 => sgb b * pwb b n
theorem pwb_sq (b : Bool) (n : Nat) : pwb b n * pwb b n = 1 := by
  induction n with
  | zero => rfl
  | succ n ih =>
    have := sgb_sq b
    rw [pwb]
    grind
theorem Bk_move (b : Bool) (cell : Nat → Nat → Int64) (x : Nat) (rs : List Nat) : ∀ (m : List Nat) (S : Nat → Bool), Bk (wt b) cell (x :: (m ++ rs)) S = pwb b m.length * Bk (wt b) cell (m ++ x :: rs) S := by
  intro m
  induction m with
  | nil => intro S; show _ = 1 * _; grind
  | cons y m ih =>
    intro S
    rw [List.cons_append, Bk_swap2]
    have := Bk_lin (wt b) cell (fun S => ih S) [y] S
    rw [List.cons_append, List.nil_append] at this
    rw [this]
    show _ = sgb b * pwb b m.length * Bk (wt b) cell (y :: (m ++ x :: rs)) S
    show sgb b * (pwb b m.length * Bk (wt b) cell (y :: (m ++ x :: rs)) S) = _
    grind
theorem Bk_exchange (b : Bool) (cell : Nat → Nat → Int64) (x y : Nat) (P m Z : List Nat) (S : Nat → Bool) : Bk (wt b) cell (P ++ x :: (m ++ y :: Z)) S = sgb b * Bk (wt b) cell (P ++ y :: (m ++ x :: Z)) S := by
  refine Bk_lin (wt b) cell (fun S => ?_) P S
  have h1 := Bk_move b cell x (y :: Z) m S
  have h2 := Bk_move b cell y (x :: Z) m S
  have h3 := Bk_lin (wt b) cell (fun S => Bk_swap2 b cell x y Z S) m S
  have h4 := pwb_sq b m.length
  rw [h1, h2, h3]
  grind
theorem Bk_map (w : (Nat → Bool) → Nat → Int64) (cell : Nat → Nat → Int64) (σ : Nat → Nat) : ∀ (rs : List Nat) (S : Nat → Bool), Bk w (fun r a => cell (σ r) a) rs S = Bk w cell (rs.map σ) S := by
  intro rs
  induction rs with
  | nil => intro S; rfl
  | cons x rs ih =>
    intro S
    rw [List.map_cons, Bk, Bk]
    exact sL_congr (fun a _ => by rw [ih])
theorem range_sw : ∀ n, n ≤ 7 → ∀ j, j < n → ∀ i, i < j → List.range n = List.range i ++ i :: (List.range' (i + 1) (j - i - 1) ++ j :: List.range' (j + 1) (n - j - 1)) ∧ (List.range n).map (sw i j) = List.range i ++ j :: (List.range' (i + 1) (j - i - 1) ++ i :: List.range' (j + 1) (n - j - 1)) := by decide +kernel
theorem sw_comm (i j r : Nat) : sw i j r = sw j i r := by
  unfold sw
  by_cases h : r = i
  · rw [if_pos h]
    by_cases h2 : r = j
    · rw [if_pos h2]; omega
    · rw [if_neg h2, if_pos h]
  · rw [if_neg h, if_neg h]
theorem sw_same (i r : Nat) : sw i i r = r := by
  unfold sw
  by_cases h : r = i
  · rw [if_pos h]; omega
  · rw [if_neg h, if_neg h]
theorem Bk_rows (b : Bool) (cell : Nat → Nat → Int64) {n i j : Nat} (hn : n ≤ 7) (hi : i < n) (hj : j < n) (S : Nat → Bool) : Bk (wt b) (fun r a => cell (sw i j r) a) (List.range n) S = (if i = j then 1 else sgb b) * Bk (wt b) cell (List.range n) S := by
  have key : ∀ i j, i < j → j < n → Bk (wt b) cell ((List.range n).map (sw i j)) S = sgb b * Bk (wt b) cell (List.range n) S := by
    intro i j hij hj
    obtain ⟨e1, e2⟩ := range_sw n hn j hj i hij
    have h := sgb_sq b
    rw [e2]
    conv => rhs; rw [e1]
    rw [Bk_exchange]
  rw [Bk_map]
  by_cases e : i = j
  · subst e
    rw [if_pos rfl]
    have : (List.range n).map (sw i i) = List.range n := by
      rw [show sw i i = id from funext (fun r => sw_same i r), List.map_id]
    rw [this]
    grind
  · rw [if_neg e]
    by_cases h : i < j
    · exact key i j h hj
    · rw [show sw i j = sw j i from funext (fun r => sw_comm i j r)]
      exact key j i (by omega) hi
/-- a row taken times a number -/
theorem Bk_scale (w : (Nat → Bool) → Nat → Int64) {cell cell' : Nat → Nat → Int64} {r : Nat} {f : Int64} (h1 : ∀ a, a < 7 → cell' r a = f * cell r a) (h2 : ∀ x, x ≠ r → ∀ a, a < 7 → cell' x a = cell x a) : ∀ (rs : List Nat) (S : Nat → Bool), rs.Nodup → r ∈ rs → Bk w cell' rs S = f * Bk w cell rs S := by
  intro rs
  induction rs with
  | nil => intro S _ h; cases h
  | cons x rs ih =>
    intro S hn hm
    obtain ⟨hx, hn⟩ := List.nodup_cons.mp hn
    rw [Bk, Bk, ← sL_mul]
    refine sL_congr (fun a ha => ?_)
    by_cases hS : S a = true
    · rw [if_pos hS, if_pos hS]
      by_cases e : x = r
      · subst e
        rw [h1 a ha, Bk_cell w (cell := cell') (cell' := cell) rs (dl S a) (fun y hy c hc _ => h2 y (fun e => hx (e ▸ hy)) c hc)]
        grind
      · rw [h2 x e a ha, ih (dl S a) hn (by
          rcases List.mem_cons.mp hm with h | h
          · exact absurd h.symm e
          · exact h)]
        grind
    · rw [if_neg hS, if_neg hS]
      grind
/-- one entry changed: the rest stands in the expansion along its row -/
theorem Bk_entry {cell cell' : Nat → Nat → Int64} {r q : Nat} (hq : q < 7) (h : ∀ x a, a < 7 → ¬ (x = r ∧ a = q) → cell' x a = cell x a) {rs L : List Nat} (hp : rs.Perm (r :: L)) (hr : r ∉ L) {S : Nat → Bool} (hS : S q = true) : Bk (wt false) cell' rs S = Bk (wt false) cell rs S + (cell' r q - cell r q) * Bk (wt false) cell L (dl S q) ∧ Bk (wt false) cell' L (dl S q) = Bk (wt false) cell L (dl S q) := by
  have e : ∀ T, Bk (wt false) cell' L T = Bk (wt false) cell L T := fun T => Bk_cell (wt false) _ _ (fun y hy c hc _ => h y c hc (fun hh => hr (hh.1 ▸ hy)))
  refine ⟨?_, e _⟩
  rw [Bk_perm cell' hp, Bk_perm cell hp, Bk, Bk, sL_split hS (fun a => wt false S a * cell' r a * Bk (wt false) cell' L (dl S a)) 7 hq, sL_split hS (fun a => wt false S a * cell r a * Bk (wt false) cell L (dl S a)) 7 hq]
  have e2 : sL (fun a => if dl S q a then wt false S a * cell' r a * Bk (wt false) cell' L (dl S a) else 0) 7 = sL (fun a => if dl S q a then wt false S a * cell r a * Bk (wt false) cell L (dl S a) else 0) 7 := by
    refine sL_congr (fun a ha => ?_)
    by_cases hd : dl S q a = true
    · rw [if_pos hd, if_pos hd, e, h r a ha (fun hh => (dl_t.mp hd).2 hh.2)]
    · rw [if_neg hd, if_neg hd]
  rw [e2, e]
  show 1 * cell' r q * _ + _ = _
  show 1 * cell' r q * Bk (wt false) cell L (dl S q) + sL (fun a => if dl S q a then wt false S a * cell r a * Bk (wt false) cell L (dl S a) else 0) 7 = 1 * cell r q * Bk (wt false) cell L (dl S q) + sL (fun a => if dl S q a then wt false S a * cell r a * Bk (wt false) cell L (dl S a) else 0) 7 + (cell' r q - cell r q) * Bk (wt false) cell L (dl S q)
  grind
/-! turning -/
theorem fl_min {S : Nat → Bool} {s : Nat} (hs : s < 7) (hS : S s = true) (hm : ∀ x, x < s → S x = false) : fl S 7 = s :: fl (dl S s) 7 := by
  have hmem : s ∈ fl S 7 := fl_mem.mpr ⟨hs, hS⟩
  have hsort := fl_sorted S 7
  have hall : ∀ a ∈ fl S 7, S a = true := fun a ha => (fl_mem.mp ha).2
  have her := fl_erase S 7 s
  cases hf : fl S 7 with
  | nil => rw [hf] at hmem; cases hmem
  | cons x L =>
    rw [hf] at hmem hsort hall her
    have hx : x = s := by
      rcases List.mem_cons.mp hmem with h | h
      · exact h.symm
      · have h1 := (List.pairwise_cons.mp hsort).1 s h
        exact absurd (hall x List.mem_cons_self) (by rw [hm x h1]; decide)
    subst hx
    rw [List.erase_cons_head] at her
    rw [her]
theorem set_cases (S : Nat → Bool) : cntB S 7 = 0 ∨ ∃ s, s < 7 ∧ S s = true ∧ ∀ x, x < s → S x = false := by
  cases hf : fl S 7 with
  | nil => left; rw [← fl_len, hf]; rfl
  | cons x L =>
    right
    have hsort := fl_sorted S 7
    have hx : x ∈ fl S 7 := by rw [hf]; exact List.mem_cons_self
    obtain ⟨h1, h2⟩ := fl_mem.mp hx
    refine ⟨x, h1, h2, fun y hy => ?_⟩
    cases hSy : S y with
    | false => rfl
    | true =>
      have : y ∈ fl S 7 := fl_mem.mpr ⟨by omega, hSy⟩
      rw [hf] at this hsort
      rcases List.mem_cons.mp this with h | h
      · omega
      · have := (List.pairwise_cons.mp hsort).1 y h
        omega
theorem cntB_dl7 {S : Nat → Bool} {s : Nat} (hs : s < 7) (hS : S s = true) : cntB (dl S s) 7 + 1 = cntB S 7 := by
  have hmem : s ∈ fl S 7 := fl_mem.mpr ⟨hs, hS⟩
  have h1 : (fl (dl S s) 7).length = cntB S 7 - 1 := by rw [← fl_erase, List.length_erase_of_mem hmem, fl_len]
  have h2 : 0 < (fl S 7).length := List.length_pos_of_mem hmem
  rw [fl_len] at h1 h2
  omega
/-- the expansion along the first column -/
theorem Bk_column (b : Bool) (cell : Nat → Nat → Int64) {r : Nat} (hr : r < 7) : ∀ (k : Nat) (S R : Nat → Bool), cntB S 7 = k → 0 < k → R r = true → (∀ x, x < r → R x = false) → Bk (wt b) cell (fl S 7) R = sL (fun c => if S c then wt b S c * cell c r * Bk (wt b) cell (fl (dl S c) 7) (dl R r) else 0) 7 := by
  intro k
  induction k with
  | zero => intro S R _ h; omega
  | succ k ih =>
    intro S R hk _ hR hm
    rcases set_cases S with h0 | ⟨s, hs, hS, hsm⟩
    · omega
    have hf := fl_min hs hS hsm
    have hc := cntB_dl7 hs hS
    rw [hf, Bk, sL_split hR (fun a => wt b R a * cell s a * Bk (wt b) cell (fl (dl S s) 7) (dl R a)) 7 hr, sL_split hS (fun c => wt b S c * cell c r * Bk (wt b) cell (fl (dl S c) 7) (dl R r)) 7 hs, wt_min b hm, wt_min b hsm]
    congr 1
    by_cases hk0 : k = 0
    · -- one row alone
      subst hk0
      have hz : ∀ a, dl S s a = true → a < 7 → False := fun a ha h7 => by
        have : a ∈ fl (dl S s) 7 := fl_mem.mpr ⟨h7, ha⟩
        have h2 := List.length_pos_of_mem this
        rw [fl_len] at h2
        omega
      have e1 : sL (fun c => if dl S s c then wt b S c * cell c r * Bk (wt b) cell (fl (dl S c) 7) (dl R r) else 0) 7 = sL (fun _ => 0) 7 := sL_congr (fun c hc7 => by rw [if_neg (fun h => hz c h hc7)])
      have e2 : sL (fun a => if dl R r a then wt b R a * cell s a * Bk (wt b) cell (fl (dl S s) 7) (dl R a) else 0) 7 = sL (fun _ => 0) 7 := by
        refine sL_congr (fun a ha => ?_)
        by_cases h : dl R r a = true
        · have hRa := (dl_t.mp h)
          have h3 : r ∈ fl (dl R a) 7 := fl_mem.mpr ⟨hr, dl_t.mpr ⟨hR, Ne.symm hRa.2⟩⟩
          have h4 := List.length_pos_of_mem h3
          rw [fl_len] at h4
          rw [if_pos h, Bk_zero (wt b) cell (fl (dl S s) 7) (dl R a) (by rw [fl_len]; omega)]
          grind
        · rw [if_neg h]
      rw [e1, e2]
    · -- both sides, as double sums
      have e1 : sL (fun a => if dl R r a then wt b R a * cell s a * Bk (wt b) cell (fl (dl S s) 7) (dl R a) else 0) 7 = sL (fun a => sL (fun c => if dl R r a = true ∧ dl S s c = true then sgb b * (wt b (dl R r) a * wt b (dl S s) c) * (cell s a * cell c r * Bk (wt b) cell (fl (dl (dl S s) c) 7) (dl (dl R r) a)) else 0) 7) 7 := by
        refine sL_congr (fun a ha => ?_)
        by_cases h : dl R r a = true
        · have hRa := (dl_t.mp h)
          rw [if_pos h, ih (dl S s) (dl R a) (by omega) (by omega) (dl_t.mpr ⟨hR, Ne.symm hRa.2⟩) (fun x hx => by
            by_cases e : x = a
            · subst e; exact dl_self _ _
            · rw [dl_at e]; exact hm x hx), ← sL_mul]
          refine sL_congr (fun c hc7 => ?_)
          by_cases h2 : dl S s c = true
          · rw [if_pos h2, if_pos ⟨h, h2⟩, wt_up b hr hR hm h, dl_comm R a r]
            grind
          · rw [if_neg h2, if_neg (fun hh => h2 hh.2)]
            grind
        · rw [if_neg h]
          have : (fun c => if dl R r a = true ∧ dl S s c = true then sgb b * (wt b (dl R r) a * wt b (dl S s) c) * (cell s a * cell c r * Bk (wt b) cell (fl (dl (dl S s) c) 7) (dl (dl R r) a)) else 0) = fun _ => 0 := by
            funext c
            rw [if_neg (fun hh => h hh.1)]
          rw [this, sL_zero]
      have e2 : sL (fun c => if dl S s c then wt b S c * cell c r * Bk (wt b) cell (fl (dl S c) 7) (dl R r) else 0) 7 = sL (fun c => sL (fun a => if dl R r a = true ∧ dl S s c = true then sgb b * (wt b (dl R r) a * wt b (dl S s) c) * (cell s a * cell c r * Bk (wt b) cell (fl (dl (dl S s) c) 7) (dl (dl R r) a)) else 0) 7) 7 := by
        refine sL_congr (fun c hc7 => ?_)
        by_cases h2 : dl S s c = true
        · have hSc := (dl_t.mp h2)
          have hf2 : fl (dl S c) 7 = s :: fl (dl (dl S s) c) 7 := by
            rw [dl_comm S s c]
            exact fl_min hs (dl_t.mpr ⟨hS, Ne.symm hSc.2⟩) (fun x hx => by
              by_cases e : x = c
              · subst e; exact dl_self _ _
              · rw [dl_at e]; exact hsm x hx)
          rw [if_pos h2, hf2, Bk, ← sL_mul]
          refine sL_congr (fun a ha => ?_)
          by_cases h : dl R r a = true
          · rw [if_pos h, if_pos ⟨h, h2⟩, wt_up b hs hS hsm h2]
            grind
          · rw [if_neg h, if_neg (fun hh => h hh.1)]
            grind
        · rw [if_neg h2]
          have : (fun a => if dl R r a = true ∧ dl S s c = true then sgb b * (wt b (dl R r) a * wt b (dl S s) c) * (cell s a * cell c r * Bk (wt b) cell (fl (dl (dl S s) c) 7) (dl (dl R r) a)) else 0) = fun _ => 0 := by
            funext a
            rw [if_neg (fun hh => h2 hh.2)]
          rw [this, sL_zero]
      rw [e1, e2, sL_swap]
/-- rows and columns exchanged for each other -/
theorem Bk_turn (b : Bool) (cell : Nat → Nat → Int64) : ∀ (k : Nat) (R S : Nat → Bool), cntB R 7 = k → Bk (wt b) (fun x y => cell y x) (fl R 7) S = Bk (wt b) cell (fl S 7) R := by
  intro k
  induction k with
  | zero =>
    intro R S hk
    have hR : fl R 7 = [] := List.length_eq_zero_iff.mp (by rw [fl_len]; exact hk)
    rw [hR, Bk]
    by_cases h : cntB S 7 = 0
    · have hS : fl S 7 = [] := List.length_eq_zero_iff.mp (by rw [fl_len]; exact h)
      rw [hS, Bk, if_pos h, if_pos hk]
    · rw [if_neg h, Bk_zero (wt b) cell (fl S 7) R (by rw [fl_len]; omega)]
  | succ k ih =>
    intro R S hk
    by_cases hz : cntB S 7 = 0
    · have hS : fl S 7 = [] := List.length_eq_zero_iff.mp (by rw [fl_len]; exact hz)
      rw [hS, Bk_zero (wt b) _ (fl R 7) S (by rw [fl_len]; omega), Bk, if_neg (by omega)]
    rcases set_cases R with h0 | ⟨r, hr, hR, hm⟩
    · omega
    rw [fl_min hr hR hm, Bk, Bk_column b cell hr (cntB S 7) S R rfl (by omega) hR hm]
    refine sL_congr (fun a ha => ?_)
    by_cases hS : S a = true
    · rw [if_pos hS, if_pos hS, ih (dl R r) (dl S a) (by have := cntB_dl7 hr hR; omega)]
    · rw [if_neg hS, if_neg hS]
