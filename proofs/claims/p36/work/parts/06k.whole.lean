/-! MATHEMATICS: the whole diagonals on both sides -/
theorem getD_mem {p : List Nat} {n i : Nat} (hl : p.length = n) (hv : ∀ v ∈ p, v < n) (hi : i < n) : p.getD i 0 < n := by
  refine hv _ ?_
  rw [List.getD_eq_getElem?_getD, List.getElem?_eq_getElem (by omega)]
  exact List.getElem_mem _
theorem nz_congr {c z : Nat → Int32} (h : ∀ k, k < 49 → c k = z k) {k : Nat} (hk : k < 49) : nz c k = nz z k := by
  unfold nz
  rw [h k hk]
theorem WL_congr {c z : Nat → Int32} (h : ∀ k, k < 49 → c k = z k) : ∀ (k r : Nat) (S : Nat → Bool), r + k ≤ 7 → WL c k r S = WL z k r S := by
  intro k
  induction k with
  | zero => intro r S _; rfl
  | succ k ih =>
    intro r S hr
    rw [WL_succ, WL_succ]
    refine cat_congr (fun a ha => ?_)
    unfold HW
    rw [nz_congr h (by omega), ih (r + 1) (dl S a) (by omega)]
theorem whL_all (z : Nat → Int32) : ∀ (q : List Nat) (r : Nat), whL z r q = allB (fun i => nz z (7 * (r + i) + q.getD i 0)) q.length := by
  intro q
  induction q with
  | nil => intro r; rfl
  | cons a q ih =>
    intro r
    rw [whL, ih (r + 1), List.length_cons]
    have key : ∀ (P : Nat → Bool) (n : Nat), allB P (n + 1) = (P 0 && allB (fun i => P (i + 1)) n) := by
      intro P n
      induction n with
      | zero => show (true && P 0) = (P 0 && true); cases P 0 <;> rfl
      | succ n ih => rw [allB, ih, allB, Bool.and_assoc]
    rw [key]
    congr 1
    refine allB_congr (fun i _ => ?_)
    rw [show r + 1 + i = r + (i + 1) by omega]
    rfl
theorem whL_zero {z : Nat → Int32} {p : List Nat} {n : Nat} (hl : p.length = n) : whL z 0 p = allB (fun i => nz z (7 * i + p.getD i 0)) n := by
  rw [whL_all, hl]
  refine allB_congr (fun i _ => ?_)
  rw [Nat.zero_add]
theorem prodL_whole {z : Nat → Int32} {p : List Nat} {n : Nat} (hl : p.length = n) : prodL (mk z) (List.range n) p = if whL z 0 p then 1 else 0 := by
  rw [prodL_pL _ _ _ (by rw [List.length_range, hl]), List.length_range, whL_zero hl]
  refine pL01 (fun k hk => ?_)
  rw [range_getD hk]
  generalize p.getD k 0 = w
  unfold mk nz
  by_cases hzz : z (7 * k + w) = 0
  · rw [if_pos hzz]
    simp [hzz]
  · rw [if_neg hzz]
    simp [hzz]
theorem lsum_count {α : Type} (P : α → Bool) (F : α → Int64) : ∀ L : List α, (∀ a ∈ L, F a = if P a then 1 else 0) → (lsum F L).toInt32 = nI (L.filter P).length := by
  intro L
  induction L with
  | nil => intro _; rfl
  | cons a L ih =>
    intro h
    show (F a + lsum F L).toInt32 = _
    rw [Int64.toInt32_add, ih (fun b hb => h b (List.mem_cons_of_mem _ hb)), h a List.mem_cons_self, List.filter_cons]
    by_cases hp : P a = true
    · rw [if_pos hp, if_pos hp, List.length_cons, show (1 : Int64).toInt32 = nI 1 from rfl, nI_add, Nat.add_comm]
    · rw [if_neg hp, if_neg hp, show (0 : Int64).toInt32 = nI 0 from rfl, nI_add, Nat.zero_add]
theorem cs_zero {n : Nat} : fl (cs n 0) 7 = fl (fun a => decide (a < n)) 7 := by
  unfold cs
  refine fl_congr (fun a _ => ?_)
  rw [Nat.zero_testBit]
  simp
theorem fl_cs0 : ∀ n, n ≤ 7 → fl (cs n 0) 7 = List.range n := by
  intro n hn
  rw [cs_zero]
  have : ∀ n, n ≤ 7 → fl (fun a => decide (a < n)) 7 = List.range n := by decide
  exact this n hn
theorem WL_whole {z : Nat → Int32} {n : Nat} (hn : n ≤ 7) : WL z n 0 (cs n 0) = (prm n (List.range n)).filter (whL z 0) := by
  unfold WL
  rw [fl_cs0 n hn]
theorem pc_zero : pc 0 = 0 := rfl
theorem EW_zero {z : Nat → Int32} {n : Nat} (hn : n ≤ 7) : EW z n 0 = ((prm n (List.range n)).filter (whL z 0)).length := by
  unfold EW
  rw [pc_zero, Nat.sub_zero, WL_whole hn]
/-- the search for the whole one of a rank -/
def gR (z : Nat → Int32) (b : Nat) (p : List Nat) : Nat ⊕ List Nat := if whL z 0 p then (match b with | 0 => .inr p | k + 1 => .inl k) else .inl b
theorem foldE_rank (z : Nat → Int32) : ∀ (L : List (List Nat)) (b : Nat), (∃ p, (L.filter (whL z 0))[b]? = some p ∧ foldE (gR z) L b = .inr p) ∨ ((L.filter (whL z 0)).length ≤ b ∧ ∃ b', foldE (gR z) L b = .inl b') := by
  intro L
  induction L with
  | nil => intro b; right; exact ⟨Nat.zero_le _, b, rfl⟩
  | cons a L ih =>
    intro b
    rw [foldE, List.filter_cons]
    by_cases h : whL z 0 a = true
    · rw [if_pos h]
      cases b with
      | zero =>
        left
        refine ⟨a, rfl, ?_⟩
        unfold gR
        rw [if_pos h]
      | succ k =>
        have : gR z (k + 1) a = .inl k := by unfold gR; rw [if_pos h]
        rw [this]
        rcases ih k with ⟨p, h1, h2⟩ | ⟨h1, h2⟩
        · left; exact ⟨p, by rw [List.getElem?_cons_succ]; exact h1, h2⟩
        · right; exact ⟨by rw [List.length_cons]; omega, h2⟩
    · rw [if_neg h]
      have : gR z b a = .inl b := by unfold gR; rw [if_neg h]
      rw [this]
      exact ih b
