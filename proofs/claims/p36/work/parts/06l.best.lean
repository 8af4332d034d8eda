/-! MATHEMATICS: diagonals of the greatest sum -/
def iI (v : Int) : Int32 := Int32.ofInt v
theorem iI_toInt {v : Int} (h1 : -5000 ≤ v) (h2 : v ≤ 5000) : (iI v).toInt = v := by
  unfold iI
  rw [Int32.toInt_ofInt]
  have hs : (Int32.size : Int) = 4294967296 := rfl
  refine Int.bmod_eq_of_le ?_ ?_
  · omega
  · omega
theorem iI_add (a b : Int) : iI a + iI b = iI (a + b) := (Int32.ofInt_add a b).symm
theorem iI_back (x : Int32) : iI x.toInt = x := Int32.ofInt_toInt x
theorem iI_le {a b : Int} (h1 : -5000 ≤ a) (h2 : a ≤ 5000) (h3 : -5000 ≤ b) (h4 : b ≤ 5000) : iI a ≤ iI b ↔ a ≤ b := by
  rw [Int32.le_iff_toInt_le, iI_toInt h1 h2, iI_toInt h3 h4]
theorem iI_lt {a b : Int} (h1 : -5000 ≤ a) (h2 : a ≤ 5000) (h3 : -5000 ≤ b) (h4 : b ≤ 5000) : iI a < iI b ↔ a < b := by
  rw [Int32.lt_iff_toInt_lt, iI_toInt h1 h2, iI_toInt h3 h4]
def sq (z : Nat → Int32) : Nat → List Nat → Int
  | _, [] => 0
  | r, a :: q => (z (7 * r + a)).toInt + sq z (r + 1) q
theorem sq_bd {z : Nat → Int32} (hz : ∀ k, k < 49 → -20 ≤ (z k).toInt ∧ (z k).toInt ≤ 20) : ∀ (q : List Nat) (r : Nat), r + q.length ≤ 7 → (∀ v ∈ q, v < 7) → -(20 * (q.length : Int)) ≤ sq z r q ∧ sq z r q ≤ 20 * (q.length : Int) := by
  intro q
  induction q with
  | nil => intro r _ _; exact ⟨by show -(20 * ((0 : Nat) : Int)) ≤ 0; decide, by show (0 : Int) ≤ 20 * ((0 : Nat) : Int); decide⟩
  | cons a q ih =>
    intro r hr hq
    rw [List.length_cons] at hr
    have h1 := ih (r + 1) (by omega) (fun v hv => hq v (List.mem_cons_of_mem _ hv))
    have h2 := hq a List.mem_cons_self
    have h3 := hz (7 * r + a) (by omega)
    rw [sq, List.length_cons]
    omega
def FB (L : List (List Nat)) (f : List Nat → Int) (q : List Nat) : Prop := ∃ l1 l2, L = l1 ++ q :: l2 ∧ (∀ x ∈ l1, f x < f q) ∧ (∀ x ∈ l2, f x ≤ f q)
theorem FB.mem {L : List (List Nat)} {f : List Nat → Int} {q : List Nat} (h : FB L f q) : q ∈ L := by
  obtain ⟨l1, l2, rfl, _, _⟩ := h
  simp
theorem FB.le {L : List (List Nat)} {f : List Nat → Int} {q : List Nat} (h : FB L f q) : ∀ x ∈ L, f x ≤ f q := by
  obtain ⟨l1, l2, rfl, h1, h2⟩ := h
  intro x hx
  rw [List.mem_append, List.mem_cons] at hx
  rcases hx with hx | rfl | hx
  · have := h1 x hx
    omega
  · exact Int.le_refl _
  · exact h2 x hx
theorem FB_uniq : ∀ {L : List (List Nat)} {f : List Nat → Int} {p q : List Nat}, FB L f p → FB L f q → p = q := by
  intro L
  induction L with
  | nil =>
    intro f p q h
    obtain ⟨l1, l2, e, _⟩ := h
    cases l1 <;> cases e
  | cons a L ih =>
    intro f p q hp hq
    have lp := hp.le
    have lq := hq.le
    have mp := hp.mem
    have mq := hq.mem
    have e : f p = f q := by
      have h1 := lq p mp
      have h2 := lp q mq
      omega
    obtain ⟨l1, l2, e1, h1, h2⟩ := hp
    obtain ⟨m1, m2, e2, h3, h4⟩ := hq
    cases l1 with
    | nil =>
      cases m1 with
      | nil =>
        rw [List.nil_append] at e1 e2
        have a1 := (List.cons.inj e1).1
        have a2 := (List.cons.inj e2).1
        rw [← a1, ← a2]
      | cons b m1 =>
        rw [List.cons_append] at e2
        have a1 := (List.cons.inj e1).1
        have a2 := (List.cons.inj e2).1
        have := h3 b List.mem_cons_self
        rw [← a2, a1] at this
        omega
    | cons b l1 =>
      cases m1 with
      | nil =>
        rw [List.cons_append] at e1
        have a1 := (List.cons.inj e1).1
        have a2 := (List.cons.inj e2).1
        have := h1 b List.mem_cons_self
        rw [← a1, a2] at this
        omega
      | cons b' m1 =>
        rw [List.cons_append] at e1 e2
        refine ih (f := f) ⟨l1, l2, (List.cons.inj e1).2, fun x hx => h1 x (List.mem_cons_of_mem _ hx), h2⟩ ⟨m1, m2, (List.cons.inj e2).2, fun x hx => h3 x (List.mem_cons_of_mem _ hx), h4⟩
def mx (v w : Int) : Int := if v < w then w else v
def FO (L : List (List Nat)) (f : List Nat → Int) (v : Int) : Prop := (L = [] ∧ v = -1000) ∨ ∃ q, FB L f q ∧ v = f q
theorem FO_uniq {L : List (List Nat)} {f : List Nat → Int} {v w : Int} (h : FO L f v) (h' : FO L f w) : v = w := by
  rcases h with ⟨e, rfl⟩ | ⟨q, h1, rfl⟩
  · rcases h' with ⟨_, rfl⟩ | ⟨q', h2, _⟩
    · rfl
    · have := h2.mem
      rw [e] at this
      cases this
  · rcases h' with ⟨e, _⟩ | ⟨q', h2, rfl⟩
    · have := h1.mem
      rw [e] at this
      cases this
    · rw [FB_uniq h1 h2]
theorem FO_app {L M : List (List Nat)} {f : List Nat → Int} {v w : Int} (hM : ∀ x ∈ M, -1000 < f x) (hL : ∀ x ∈ L, -1000 < f x) (h : FO L f v) (h' : FO M f w) : FO (L ++ M) f (mx v w) := by
  unfold mx
  rcases h with ⟨rfl, rfl⟩ | ⟨q, h1, rfl⟩
  · rcases h' with ⟨rfl, rfl⟩ | ⟨q', h2, rfl⟩
    · left; exact ⟨rfl, rfl⟩
    · have := hM q' h2.mem
      rw [if_pos this]
      right; exact ⟨q', h2, rfl⟩
  · rcases h' with ⟨rfl, rfl⟩ | ⟨q', h2, rfl⟩
    · have := hL q h1.mem
      rw [if_neg (by omega), List.append_nil]
      right; exact ⟨q, h1, rfl⟩
    · right
      have l1 := h1.le
      have l2 := h2.le
      by_cases hc : f q < f q'
      · rw [if_pos hc]
        obtain ⟨a1, a2, e, b1, b2⟩ := h2
        refine ⟨q', ⟨L ++ a1, a2, by rw [e]; simp, ?_, b2⟩, rfl⟩
        intro x hx
        rw [List.mem_append] at hx
        rcases hx with hx | hx
        · have := l1 x hx
          omega
        · exact b1 x hx
      · rw [if_neg hc]
        obtain ⟨a1, a2, e, b1, b2⟩ := h1
        refine ⟨q, ⟨a1, a2 ++ M, by rw [e]; simp, b1, ?_⟩, rfl⟩
        intro x hx
        rw [List.mem_append] at hx
        rcases hx with hx | hx
        · exact b2 x hx
        · have := l2 x hx
          omega
theorem FB_map {L : List (List Nat)} {f g : List Nat → Int} {q : List Nat} {a : Nat} {c : Int} (hg : ∀ q, g (a :: q) = c + f q) (h : FB L f q) : FB (L.map (fun q => a :: q)) g (a :: q) := by
  obtain ⟨l1, l2, rfl, h1, h2⟩ := h
  refine ⟨l1.map (fun q => a :: q), l2.map (fun q => a :: q), by simp, ?_, ?_⟩
  · intro x hx
    obtain ⟨y, hy, rfl⟩ := List.mem_map.mp hx
    have := h1 y hy
    rw [hg, hg]
    omega
  · intro x hx
    obtain ⟨y, hy, rfl⟩ := List.mem_map.mp hx
    have := h2 y hy
    rw [hg, hg]
    omega
/-- what the model keeps -/
def gB (F : List Nat → Int32) (b : Nat × Int32) (p : List Nat) : Nat × Int32 := if F p ≤ b.2 then b else (numL p, F p)
theorem fold_keep {F : List Nat → Int32} : ∀ (L : List (List Nat)) (b : Nat × Int32), (∀ x ∈ L, F x ≤ b.2) → L.foldl (gB F) b = b := by
  intro L
  induction L with
  | nil => intro b _; rfl
  | cons a L ih =>
    intro b h
    have : gB F b a = b := by unfold gB; rw [if_pos (h a List.mem_cons_self)]
    rw [List.foldl_cons, this]
    exact ih b (fun x hx => h x (List.mem_cons_of_mem _ hx))
theorem fold_less {F : List Nat → Int32} {m : Int} : ∀ (L : List (List Nat)) (b : Nat × Int32), (∀ x ∈ L, (F x).toInt < m) → b.2.toInt < m → (L.foldl (gB F) b).2.toInt < m := by
  intro L
  induction L with
  | nil => intro b _ h; exact h
  | cons a L ih =>
    intro b h hb
    rw [List.foldl_cons]
    refine ih _ (fun x hx => h x (List.mem_cons_of_mem _ hx)) ?_
    unfold gB
    by_cases hc : F a ≤ b.2
    · rw [if_pos hc]; exact hb
    · rw [if_neg hc]; exact h a List.mem_cons_self
theorem fold_FB {F : List Nat → Int32} {f : List Nat → Int} {L : List (List Nat)} {q : List Nat} {b : Nat × Int32} (hF : ∀ x ∈ L, (F x).toInt = f x) (h : FB L f q) (hb : b.2.toInt < f q) : L.foldl (gB F) b = (numL q, F q) := by
  have hq := hF q h.mem
  obtain ⟨l1, l2, rfl, h1, h2⟩ := h
  rw [List.foldl_append, List.foldl_cons]
  have h3 := fold_less (F := F) (m := f q) l1 b (fun x hx => by
    rw [hF x (by simp [hx])]
    exact h1 x hx) hb
  have h4 : gB F (l1.foldl (gB F) b) q = (numL q, F q) := by
    show (if F q ≤ (l1.foldl (gB F) b).2 then _ else _) = _
    rw [if_neg]
    rw [Int32.le_iff_toInt_le, hq]
    omega
  rw [h4]
  refine fold_keep l2 _ (fun x hx => ?_)
  show F x ≤ F q
  rw [Int32.le_iff_toInt_le, hq, hF x (by simp [hx])]
  exact h2 x hx
theorem FB_ex (f : List Nat → Int) : ∀ L : List (List Nat), L ≠ [] → ∃ q, FB L f q := by
  intro L
  induction L with
  | nil => intro h; exact absurd rfl h
  | cons a L ih =>
    intro _
    by_cases e : L = []
    · subst e
      exact ⟨a, [], [], rfl, fun x hx => (by cases hx), fun x hx => (by cases hx)⟩
    · obtain ⟨q, h⟩ := ih e
      have hle := h.le
      by_cases hc : f q ≤ f a
      · refine ⟨a, [], L, rfl, fun x hx => (by cases hx), fun x hx => ?_⟩
        have := hle x hx
        omega
      · obtain ⟨l1, l2, rfl, h1, h2⟩ := h
        refine ⟨q, a :: l1, l2, rfl, fun x hx => ?_, h2⟩
        rcases List.mem_cons.mp hx with rfl | hx
        · omega
        · exact h1 x hx
theorem sq_sI {z : Nat → Int32} : ∀ (q : List Nat) (r : Nat), iI (sq z r q) = sI (fun i => z (7 * (r + i) + q.getD i 0)) q.length := by
  intro q
  induction q with
  | nil => intro r; rfl
  | cons a q ih =>
    intro r
    have key : ∀ (f : Nat → Int32) (n : Nat), sI f (n + 1) = f 0 + sI (fun i => f (i + 1)) n := by
      intro f n
      induction n with
      | zero => show 0 + f 0 = f 0 + 0; grind
      | succ n ih => rw [sI, ih, sI]; grind
    rw [sq, ← iI_add, iI_back, ih (r + 1), List.length_cons, key]
    congr 1
    refine sI_congr (fun i _ => ?_)
    rw [show r + 1 + i = r + (i + 1) by omega]
    rfl
