/-! MATHEMATICS: a matrix with like sums has a whole diagonal -/
theorem perm_of_nodup : ∀ (p s : List Nat), p.Nodup → (∀ x ∈ p, x ∈ s) → p.length = s.length → p.Perm s := by
  intro p
  induction p with
  | nil =>
    intro s _ _ h
    have : s = [] := List.length_eq_zero_iff.mp h.symm
    subst this
    exact List.Perm.refl _
  | cons a p ih =>
    intro s hn hs hl
    rw [List.nodup_cons] at hn
    have ha := hs a List.mem_cons_self
    have h1 := ih (s.erase a) hn.2 (fun x hx => by
      have hxa : x ≠ a := by
        intro e
        rw [e] at hx
        exact hn.1 hx
      exact (List.mem_erase_of_ne hxa).mpr (hs x (List.mem_cons_of_mem _ hx))) (by
      rw [List.length_erase_of_mem ha]
      rw [List.length_cons] at hl
      omega)
    exact (h1.cons a).trans (List.perm_cons_erase ha).symm
theorem whole_ex {w : Nat → Nat → Nat} {n c : Nat} (hc : 0 < c) (hr : ∀ r, r < n → sN (fun a => w r a) n = c) (hq : ∀ a, a < n → sN (fun r => w r a) n = c) : ∃ p, p ∈ prm n (List.range n) ∧ ∀ i, i < n → 0 < w i (p.getD i 0) := by
  obtain ⟨f, h1, h2⟩ := hall (fun r a => decide (0 < w r a)) n n (fun _ => true) (fun _ => true) (cntB_le _ _) (fun R' _ => like_hall hc hr hq R')
  refine ⟨(List.range n).map f, prm_all n _ _ List.length_range (perm_of_nodup _ _ ?_ ?_ (by simp)), ?_⟩
  · rw [List.Nodup, List.pairwise_map]
    have hp : (List.range n).Pairwise (fun a b => a < b) := List.pairwise_lt_range
    refine hp.imp_of_mem (fun {a b} ha hb hab he => ?_)
    have := h2 a b (List.mem_range.mp ha) (List.mem_range.mp hb) rfl rfl he
    omega
  · intro x hx
    obtain ⟨i, hi, rfl⟩ := List.mem_map.mp hx
    exact List.mem_range.mpr (h1 i (List.mem_range.mp hi) rfl).1
  · intro i hi
    have := (h1 i hi rfl).2.2
    rw [List.getD_eq_getElem?_getD, List.getElem?_map, List.getElem?_eq_getElem (by simpa using hi), List.getElem_range]
    exact of_decide_eq_true this
