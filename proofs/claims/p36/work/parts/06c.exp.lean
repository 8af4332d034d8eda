/-! MATHEMATICS: expansions along the first row and along the last one -/
def dl (S : Nat → Bool) (a : Nat) : Nat → Bool := fun x => S x && !decide (x = a)
theorem dl_comm (S : Nat → Bool) (a b : Nat) : dl (dl S a) b = dl (dl S b) a := by
  funext x
  unfold dl
  rw [Bool.and_assoc, Bool.and_assoc, Bool.and_comm (!decide (x = a))]
theorem dl_at {S : Nat → Bool} {a x : Nat} (h : x ≠ a) : dl S a x = S x := by
  unfold dl
  rw [decide_eq_false h]
  simp
theorem dl_self (S : Nat → Bool) (a : Nat) : dl S a a = false := by
  unfold dl
  rw [decide_eq_true rfl]
  simp
def Bk (w : (Nat → Bool) → Nat → Int64) (cell : Nat → Nat → Int64) : List Nat → (Nat → Bool) → Int64
  | [], S => if cntB S 7 = 0 then 1 else 0
  | r :: rs, S => sL (fun a => if S a then w S a * cell r a * Bk w cell rs (dl S a) else 0) 7
theorem Bk_snoc (w w' : (Nat → Bool) → Nat → Int64) (cell : Nat → Nat → Int64) (h1 : ∀ S a, a < 7 → S a = true → cntB (dl S a) 7 = 0 → w S a = w' S a)
    (h2 : ∀ S a b, a < 7 → b < 7 → a ≠ b → S a = true → S b = true → w S a * w' (dl S a) b = w' S b * w (dl S b) a) (r : Nat) : ∀ (rs : List Nat) (S : Nat → Bool), Bk w cell (rs ++ [r]) S = sL (fun a => if S a then w' S a * cell r a * Bk w cell rs (dl S a) else 0) 7 := by
  intro rs
  induction rs with
  | nil =>
    intro S
    refine sL_congr (fun a ha => ?_)
    by_cases hS : S a = true
    · rw [if_pos hS, if_pos hS]
      by_cases hc : cntB (dl S a) 7 = 0
      · rw [h1 S a ha hS hc]
      · rw [Bk, if_neg hc]
        grind
    · rw [if_neg hS, if_neg hS]
  | cons r0 rs ih =>
    intro S
    show sL (fun a => if S a then w S a * cell r0 a * Bk w cell (rs ++ [r]) (dl S a) else 0) 7 = _
    have e1 : sL (fun a => if S a then w S a * cell r0 a * Bk w cell (rs ++ [r]) (dl S a) else 0) 7 = sL (fun a => sL (fun b => if S a = true ∧ S b = true ∧ a ≠ b then w S a * w' (dl S a) b * (cell r0 a * cell r b * Bk w cell rs (dl (dl S a) b)) else 0) 7) 7 := by
      refine sL_congr (fun a ha => ?_)
      by_cases hS : S a = true
      · rw [if_pos hS, ih, ← sL_mul]
        refine sL_congr (fun b hb => ?_)
        by_cases hab : a = b
        · subst hab
          rw [if_neg (by rw [dl_self]; decide), if_neg (by simp)]
          grind
        · rw [dl_at (Ne.symm hab)]
          by_cases hb2 : S b = true
          · rw [if_pos hb2, if_pos ⟨hS, hb2, hab⟩]
            grind
          · rw [if_neg hb2, if_neg (fun h => hb2 h.2.1)]
            grind
      · rw [if_neg hS]
        have : (fun b => if S a = true ∧ S b = true ∧ a ≠ b then w S a * w' (dl S a) b * (cell r0 a * cell r b * Bk w cell rs (dl (dl S a) b)) else 0) = fun _ => 0 := by
          funext b
          rw [if_neg (fun h => hS h.1)]
        rw [this, sL_zero]
    have e2 : sL (fun b => if S b then w' S b * cell r b * Bk w cell (r0 :: rs) (dl S b) else 0) 7 = sL (fun b => sL (fun a => if S a = true ∧ S b = true ∧ a ≠ b then w S a * w' (dl S a) b * (cell r0 a * cell r b * Bk w cell rs (dl (dl S a) b)) else 0) 7) 7 := by
      refine sL_congr (fun b hb => ?_)
      by_cases hS : S b = true
      · rw [if_pos hS, Bk, ← sL_mul]
        refine sL_congr (fun a ha => ?_)
        by_cases hab : a = b
        · subst hab
          rw [if_neg (by rw [dl_self]; decide), if_neg (by simp)]
          grind
        · rw [dl_at hab]
          by_cases ha2 : S a = true
          · rw [if_pos ha2, if_pos ⟨ha2, hS, hab⟩, h2 S a b ha hb hab ha2 hS, dl_comm S a b]
            grind
          · rw [if_neg ha2, if_neg (fun h => ha2 h.1)]
            grind
      · rw [if_neg hS]
        have : (fun a => if S a = true ∧ S b = true ∧ a ≠ b then w S a * w' (dl S a) b * (cell r0 a * cell r b * Bk w cell rs (dl (dl S a) b)) else 0) = fun _ => 0 := by
          funext a
          rw [if_neg (fun h => hS h.2.1)]
        rw [this, sL_zero]
    rw [e1, e2, sL_swap]
/-- sums over lists -/
def lsum {α : Type} (F : α → Int64) : List α → Int64
  | [] => 0
  | a :: L => F a + lsum F L
theorem lsum_app {α : Type} (F : α → Int64) (L M : List α) : lsum F (L ++ M) = lsum F L + lsum F M := by
  induction L with
  | nil => show lsum F M = 0 + lsum F M; grind
  | cons a L ih => show F a + lsum F (L ++ M) = F a + lsum F L + lsum F M; rw [ih]; grind
theorem lsum_map {α β : Type} (F : β → Int64) (h : α → β) (L : List α) : lsum F (L.map h) = lsum (fun a => F (h a)) L := by
  induction L with
  | nil => rfl
  | cons a L ih => show F (h a) + lsum F (L.map h) = _; rw [ih]; rfl
theorem lsum_flat {α β : Type} (F : β → Int64) (h : α → List β) (L : List α) : lsum F (L.flatMap h) = lsum (fun a => lsum F (h a)) L := by
  induction L with
  | nil => rfl
  | cons a L ih => rw [List.flatMap_cons, lsum_app, ih]; rfl
theorem lsum_congr {α : Type} {F G : α → Int64} {L : List α} (h : ∀ a ∈ L, F a = G a) : lsum F L = lsum G L := by
  induction L with
  | nil => rfl
  | cons a L ih =>
    show F a + lsum F L = G a + lsum G L
    rw [h a List.mem_cons_self, ih (fun b hb => h b (List.mem_cons_of_mem _ hb))]
theorem lsum_mul {α : Type} (c : Int64) (F : α → Int64) (L : List α) : lsum (fun a => c * F a) L = c * lsum F L := by
  induction L with
  | nil => show (0 : Int64) = c * 0; grind
  | cons a L ih => show c * F a + lsum (fun a => c * F a) L = c * (F a + lsum F L); rw [ih]; grind
theorem lsum_fold {α : Type} (F : α → Int64) (L : List α) (b : Int64) : L.foldl (fun b a => b + F a) b = b + lsum F L := by
  induction L generalizing b with
  | nil => show b = b + 0; grind
  | cons a L ih => rw [List.foldl_cons, ih]; show b + F a + lsum F L = b + (F a + lsum F L); grind
/-- the members of a set, in their order -/
def fl (S : Nat → Bool) (n : Nat) : List Nat := (List.range n).filter S
theorem fl_succ (S : Nat → Bool) (n : Nat) : fl S (n + 1) = fl S n ++ (if S n then [n] else []) := by
  unfold fl
  rw [List.range_succ, List.filter_append]
  congr 1
  by_cases h : S n = true
  · rw [if_pos h, List.filter_cons, if_pos h, List.filter_nil]
  · rw [if_neg h, List.filter_cons, if_neg h, List.filter_nil]
theorem fl_len (S : Nat → Bool) (n : Nat) : (fl S n).length = cntB S n := by
  induction n with
  | zero => rfl
  | succ n ih =>
    rw [fl_succ, List.length_append, ih, cntB]
    by_cases h : S n = true
    · rw [if_pos h, if_pos h]; rfl
    · rw [if_neg h, if_neg h]; rfl
theorem fl_sum (S : Nat → Bool) (G : Nat → Int64) (n : Nat) : lsum G (fl S n) = sL (fun a => if S a then G a else 0) n := by
  induction n with
  | zero => rfl
  | succ n ih =>
    rw [fl_succ, lsum_app, ih, sL]
    by_cases h : S n = true
    · rw [if_pos h, if_pos h]
      show _ + (G n + 0) = _
      grind
    · rw [if_neg h, if_neg h]
      rfl
theorem fl_sorted (S : Nat → Bool) (n : Nat) : (fl S n).Pairwise (fun a b => a < b) := List.pairwise_lt_range.sublist List.filter_sublist
theorem fl_nodup (S : Nat → Bool) (n : Nat) : (fl S n).Nodup := List.nodup_range.sublist List.filter_sublist
theorem fl_mem {S : Nat → Bool} {n a : Nat} : a ∈ fl S n ↔ a < n ∧ S a = true := by
  unfold fl
  rw [List.mem_filter, List.mem_range]
theorem fl_erase (S : Nat → Bool) (n a : Nat) : (fl S n).erase a = fl (dl S a) n := by
  rw [(fl_nodup S n).erase_eq_filter, fl, fl, List.filter_filter]
  congr 1
  funext x
  unfold dl
  rw [Bool.and_comm]
  congr 1
theorem fl_congr {S T : Nat → Bool} {n : Nat} (h : ∀ a, a < n → S a = T a) : fl S n = fl T n := by
  induction n with
  | zero => rfl
  | succ n ih => rw [fl_succ, fl_succ, ih (fun a ha => h a (by omega)), h n (by omega)]
theorem fl_all (n : Nat) : fl (fun _ => true) n = List.range n := by
  unfold fl
  rw [List.filter_eq_self]
  intro a _
  rfl
def prodL (cell : Nat → Nat → Int64) : List Nat → List Nat → Int64
  | r :: rs, a :: q => cell r a * prodL cell rs q
  | _, _ => 1
theorem prm_sum (w : (Nat → Bool) → Nat → Int64) (cell : Nat → Nat → Int64) (f : List Nat → Int64) (hf0 : f [] = 1)
    (hf : ∀ S a q, a < 7 → S a = true → q.Perm (fl (dl S a) 7) → f (a :: q) = w S a * f q) : ∀ (rs : List Nat) (S : Nat → Bool), rs.length = cntB S 7 → lsum (fun q => f q * prodL cell rs q) (prm rs.length (fl S 7)) = Bk w cell rs S := by
  intro rs
  induction rs with
  | nil =>
    intro S h
    have h' : cntB S 7 = 0 := h.symm
    show f [] * prodL cell [] [] + 0 = if cntB S 7 = 0 then 1 else 0
    rw [if_pos h', hf0, prodL]
    grind
    all_goals (intro _ _ _ _ h _; cases h)
  | cons r rs ih =>
    intro S h
    rw [List.length_cons, prm, lsum_flat]
    show _ = sL (fun a => if S a then w S a * cell r a * Bk w cell rs (dl S a) else 0) 7
    rw [← fl_sum]
    refine lsum_congr (fun a ha => ?_)
    obtain ⟨ha7, haS⟩ := fl_mem.mp ha
    have hlen : rs.length = (fl (dl S a) 7).length := by
      rw [← fl_erase, List.length_erase_of_mem ha, fl_len]
      rw [List.length_cons] at h
      omega
    rw [lsum_map, fl_erase, ← ih (dl S a) (by rw [hlen, fl_len]), ← lsum_mul]
    refine lsum_congr (fun q hq => ?_)
    have hp := prm_perm rs.length (fl (dl S a) 7) hlen.symm q hq
    rw [hf S a q ha7 haS hp]
    show w S a * f q * (cell r a * prodL cell rs q) = _
    grind
theorem Bk_zero (w : (Nat → Bool) → Nat → Int64) (cell : Nat → Nat → Int64) : ∀ (rs : List Nat) (S : Nat → Bool), rs.length ≠ cntB S 7 → Bk w cell rs S = 0 := by
  intro rs
  induction rs with
  | nil => intro S h; rw [Bk, if_neg (fun hc => h hc.symm)]
  | cons r rs ih =>
    intro S h
    rw [Bk]
    have : sL (fun a => if S a then w S a * cell r a * Bk w cell rs (dl S a) else 0) 7 = sL (fun _ => 0) 7 := by
      refine sL_congr (fun a ha => ?_)
      by_cases hS : S a = true
      · have hm : a ∈ fl S 7 := fl_mem.mpr ⟨ha, hS⟩
        have hlen : (fl (dl S a) 7).length = cntB S 7 - 1 := by
          rw [← fl_erase, List.length_erase_of_mem hm, fl_len]
        have hpos : 0 < (fl S 7).length := List.length_pos_of_mem hm
        rw [fl_len] at hlen hpos
        rw [List.length_cons] at h
        rw [if_pos hS, ih (dl S a) (by omega)]
        grind
      · rw [if_neg hS]
    rw [this, sL_zero]
theorem erase_map {h : Nat → Nat} : ∀ {s : List Nat} {a : Nat}, (∀ x ∈ s, h x = h a → x = a) → (s.map h).erase (h a) = (s.erase a).map h := by
  intro s
  induction s with
  | nil => intro a _; rfl
  | cons b s ih =>
    intro a hi
    by_cases e : b = a
    · subst e
      rw [List.map_cons, List.erase_cons_head, List.erase_cons_head]
    · have e' : ¬ h b = h a := fun hc => e (hi b List.mem_cons_self hc)
      rw [List.map_cons, List.erase_cons_tail (by simpa using e'), List.erase_cons_tail (by simpa using e), List.map_cons, ih (fun x hx => hi x (List.mem_cons_of_mem _ hx))]
theorem prm_map {h : Nat → Nat} : ∀ (k : Nat) (s : List Nat), (∀ x ∈ s, ∀ y ∈ s, h x = h y → x = y) → prm k (s.map h) = (prm k s).map (List.map h) := by
  intro k
  induction k with
  | zero => intro s _; rfl
  | succ k ih =>
    intro s hi
    rw [prm, prm, List.flatMap_map, List.map_flatMap]
    have key : ∀ t : List Nat, (∀ a ∈ t, a ∈ s) → t.flatMap (fun a => (prm k ((s.map h).erase (h a))).map (fun q => h a :: q)) = t.flatMap (fun a => ((prm k (s.erase a)).map (fun q => a :: q)).map (List.map h)) := by
      intro t
      induction t with
      | nil => intro _; rfl
      | cons a t iht =>
        intro ht
        have ha := ht a List.mem_cons_self
        rw [List.flatMap_cons, List.flatMap_cons, iht (fun b hb => ht b (List.mem_cons_of_mem _ hb)), erase_map (fun x hx he => hi x hx a ha he), ih (s.erase a) (fun x hx y hy he => hi x (List.mem_of_mem_erase hx) y (List.mem_of_mem_erase hy) he), List.map_map, List.map_map]
        rfl
    exact key s (fun a ha => ha)
