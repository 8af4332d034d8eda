/-! MATHEMATICS: the orders of a set, one after another -/
def prm : Nat → List Nat → List (List Nat)
  | 0, _ => [[]]
  | k + 1, s => s.flatMap (fun a => (prm k (s.erase a)).map (fun q => a :: q))
def Nx (p q : List Nat) : Prop := ∃ pre x d1 y d2, p = pre ++ x :: (d1 ++ y :: d2) ∧ (d1 ++ y :: d2).Pairwise (fun a b => b < a) ∧ x < y ∧ (∀ e ∈ d2, e < x) ∧ q = pre ++ y :: (d1 ++ x :: d2).reverse
def Pth : List Nat → List (List Nat) → List Nat → Prop
  | _, [], _ => False
  | p, a :: L, z => a = p ∧ ((L = [] ∧ z = p) ∨ ∃ q, Nx p q ∧ Pth q L z)
theorem Pth_one (p : List Nat) : Pth p [p] p := ⟨rfl, Or.inl ⟨rfl, rfl⟩⟩
theorem Pth_cons {p q : List Nat} {L : List (List Nat)} {z : List Nat} (h : Nx p q) (t : Pth q L z) : Pth p (p :: L) z := ⟨rfl, Or.inr ⟨q, h, t⟩⟩
theorem Pth.app {q w z : List Nat} {M : List (List Nat)} : ∀ {L : List (List Nat)} {p : List Nat}, Pth p L z → Nx z q → Pth q M w → Pth p (L ++ M) w := by
  intro L
  induction L with
  | nil => intro p h; exact h.elim
  | cons a L ih =>
    intro p h hn t
    obtain ⟨rfl, h⟩ := h
    rcases h with ⟨rfl, rfl⟩ | ⟨q', h1, h2⟩
    · exact Pth_cons hn t
    · exact Pth_cons h1 (ih h2 hn t)
theorem Nx.cons {p q : List Nat} (a : Nat) (h : Nx p q) : Nx (a :: p) (a :: q) := by
  obtain ⟨pre, x, d1, y, d2, rfl, h2, h3, h4, rfl⟩ := h
  exact ⟨a :: pre, x, d1, y, d2, rfl, h2, h3, h4, rfl⟩
theorem Pth.map {z : List Nat} (b : Nat) : ∀ {L : List (List Nat)} {p : List Nat}, Pth p L z → Pth (b :: p) (L.map (fun q => b :: q)) (b :: z) := by
  intro L
  induction L with
  | nil => intro p h; exact h.elim
  | cons a L ih =>
    intro p h
    obtain ⟨rfl, h⟩ := h
    rcases h with ⟨rfl, rfl⟩ | ⟨q', h1, h2⟩
    · exact Pth_one _
    · exact Pth_cons (h1.cons b) (ih h2)
theorem erase_mid {pre rest : List Nat} {a : Nat} (h : ∀ e ∈ pre, e ≠ a) : (pre ++ a :: rest).erase a = pre ++ rest := by
  rw [List.erase_append_right _ (fun hm => h a hm rfl), List.erase_cons_head]
theorem prm_path : ∀ (k : Nat) (s : List Nat), s.length = k → s.Pairwise (fun a b => a < b) → Pth s (prm k s) s.reverse := by
  intro k
  induction k with
  | zero =>
    intro s hs _
    have : s = [] := List.length_eq_zero_iff.mp hs
    subst this
    exact Pth_one []
  | succ k ih =>
    intro s hs hp
    have key : ∀ (suf pre : List Nat) (a : Nat), s = pre ++ a :: suf → Pth (a :: s.erase a) ((a :: suf).flatMap (fun a => (prm k (s.erase a)).map (fun q => a :: q))) s.reverse := by
      intro suf
      induction suf with
      | nil =>
        intro pre a e
        have hlt : ∀ x ∈ pre, x < a := by
          intro x hx
          rw [e, List.pairwise_append] at hp
          exact hp.2.2 x hx a (List.mem_cons_self)
        have he : s.erase a = pre := by
          rw [e, erase_mid (fun x hx => Nat.ne_of_lt (hlt x hx)), List.append_nil]
        have hl : (s.erase a).length = k := by
          rw [e] at hs
          rw [he]
          simp at hs
          exact hs
        have hpp : (s.erase a).Pairwise (fun a b => a < b) := hp.sublist List.erase_sublist
        have h1 := (ih (s.erase a) hl hpp).map a
        have h2 : ([a] : List Nat).flatMap (fun a => (prm k (s.erase a)).map (fun q => a :: q)) = (prm k (s.erase a)).map (fun q => a :: q) := by simp
        rw [h2]
        have h3 : s.reverse = a :: (s.erase a).reverse := by
          rw [he, e]
          simp
        rw [h3]
        exact h1
      | cons b rest ih2 =>
        intro pre a e
        have hp' := hp
        rw [e, List.pairwise_append] at hp'
        obtain ⟨q1, q2, q3⟩ := hp'
        rw [List.pairwise_cons] at q2
        obtain ⟨q4, q5⟩ := q2
        rw [List.pairwise_cons] at q5
        obtain ⟨q6, q7⟩ := q5
        have hlt : ∀ x ∈ pre, x < a := fun x hx => q3 x hx a List.mem_cons_self
        have hab : a < b := q4 b List.mem_cons_self
        have he : s.erase a = pre ++ b :: rest := by
          rw [e, erase_mid (fun x hx => Nat.ne_of_lt (hlt x hx))]
        have he' : s.erase b = pre ++ a :: rest := by
          rw [e, show pre ++ a :: b :: rest = (pre ++ [a]) ++ b :: rest by simp, erase_mid (fun x hx => by
            rw [List.mem_append, List.mem_singleton] at hx
            rcases hx with hx | rfl
            · exact Nat.ne_of_lt (Nat.lt_trans (hlt x hx) hab)
            · exact Nat.ne_of_lt hab)]
          simp
        have hl : (s.erase a).length = k := by
          rw [e] at hs
          rw [he]
          simp at hs ⊢
          omega
        have hpp : (s.erase a).Pairwise (fun a b => a < b) := hp.sublist List.erase_sublist
        have h1 := (ih (s.erase a) hl hpp).map a
        have h2 := ih2 (pre ++ [a]) b (by rw [e]; simp)
        rw [List.flatMap_cons]
        refine h1.app ?_ h2
        refine ⟨[], a, rest.reverse, b, pre.reverse, ?_, ?_, hab, ?_, ?_⟩
        · rw [he]; simp
        · have : rest.reverse ++ b :: pre.reverse = (pre ++ b :: rest).reverse := by simp
          rw [this, List.pairwise_reverse, ← he]
          exact hpp
        · intro e he
          exact hlt e (List.mem_reverse.mp he)
        · rw [he']; simp
    cases s with
    | nil => simp at hs
    | cons a rest =>
      have h := key rest [] a rfl
      rw [List.erase_cons_head] at h
      exact h
theorem prm_perm : ∀ (k : Nat) (s : List Nat), s.length = k → ∀ q ∈ prm k s, q.Perm s := by
  intro k
  induction k with
  | zero =>
    intro s hs q hq
    have : s = [] := List.length_eq_zero_iff.mp hs
    subst this
    rw [prm, List.mem_singleton] at hq
    subst hq
    exact List.Perm.refl _
  | succ k ih =>
    intro s hs q hq
    rw [prm, List.mem_flatMap] at hq
    obtain ⟨a, ha, hq⟩ := hq
    rw [List.mem_map] at hq
    obtain ⟨r, hr, rfl⟩ := hq
    have := ih (s.erase a) (by rw [List.length_erase_of_mem ha]; omega) r hr
    exact (this.cons a).trans (List.perm_cons_erase ha).symm
def fct : Nat → Nat
  | 0 => 1
  | k + 1 => (k + 1) * fct k
theorem prm_len : ∀ (k : Nat) (s : List Nat), s.length = k → (prm k s).length = fct k := by
  intro k
  induction k with
  | zero => intro s _; rfl
  | succ k ih =>
    intro s hs
    have key : ∀ t : List Nat, (∀ a ∈ t, a ∈ s) → (t.flatMap (fun a => (prm k (s.erase a)).map (fun q => a :: q))).length = t.length * fct k := by
      intro t
      induction t with
      | nil => intro _; simp
      | cons a t iht =>
        intro h
        rw [List.flatMap_cons, List.length_append, iht (fun b hb => h b (List.mem_cons_of_mem _ hb)), List.length_map, ih (s.erase a) (by rw [List.length_erase_of_mem (h a List.mem_cons_self)]; omega), List.length_cons, Nat.succ_mul]
        omega
    rw [prm, key s (fun a h => h), hs, fct]
theorem fct_le {k : Nat} (h : k ≤ 7) : fct k ≤ 5040 := by
  have : ∀ k, k < 8 → fct k ≤ 5040 := by decide
  exact this k (by omega)
/-- going through a list, with a way out -/
def foldE {α β γ : Type} (g : β → α → β ⊕ γ) : List α → β → β ⊕ γ
  | [], b => .inl b
  | a :: L, b => match g b a with
    | .inl b' => foldE g L b'
    | .inr c => .inr c
theorem foldE_inl {α β γ : Type} (g : β → α → β) (L : List α) (b : β) : foldE (γ := γ) (fun b a => .inl (g b a)) L b = .inl (L.foldl g b) := by
  induction L generalizing b with
  | nil => rfl
  | cons a L ih => exact ih (g b a)
/-- the array `o` holds the order `p` -/
def Od (o : Nat → Int32) (p : List Nat) : Prop := ∀ i v, p[i]? = some v → o i = nI v
