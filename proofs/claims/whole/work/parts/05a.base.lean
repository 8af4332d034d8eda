/-! MATHEMATICS, part a: counters, loops, guards -/
theorem lit32 (n : Nat) : (OfNat.ofNat n : Int32) = nI n := rfl
theorem FU_lt {N : Nat} (h : N < 100000) : N < FU := h
theorem lp_step {σ ρ : Type} {body : σ → Option (σ ⊕ ρ)} {n : Nat} {s s' : σ} (h : body s = some (.inl s')) : lpN body (n + 1) s = lpN body n s' := by rw [lpN, h]
theorem lp_end {σ ρ : Type} {body : σ → Option (σ ⊕ ρ)} {n : Nat} {s : σ} {r : ρ} (h : body s = some (.inr r)) : lpN body (n + 1) s = some r := by rw [lpN, h]
/-- a loop that goes through the states S 0 .. S N and ends there -/
theorem lp_run {σ ρ : Type} {body : σ → Option (σ ⊕ ρ)} (S : Nat → σ) (N : Nat) (r : ρ) (hs : ∀ k, k < N → body (S k) = some (.inl (S (k + 1)))) (he : body (S N) = some (.inr r)) {fuel : Nat} (hf : N < fuel) : lpN body fuel (S 0) = some r := by
  have key : ∀ d k fuel, k + d = N → d < fuel → lpN body fuel (S k) = some r := by
    intro d
    induction d with
    | zero =>
      intro k fuel hk hf
      cases fuel with
      | zero => omega
      | succ f =>
        have : k = N := by omega
        subst this
        exact lp_end he
    | succ d ih =>
      intro k fuel hk hf
      cases fuel with
      | zero => omega
      | succ f =>
        rw [lp_step (hs k (by omega))]
        exact ih (k + 1) f (by omega) (by omega)
  exact key N 0 fuel (by omega) hf
/-- from a state on, with an invariant and a measure that falls -/
theorem lp_inv {σ ρ : Type} {body : σ → Option (σ ⊕ ρ)} (I : σ → Prop) (μ : σ → Nat) (Q : ρ → Prop) (hs : ∀ s, I s → (∃ s', body s = some (.inl s') ∧ I s' ∧ μ s' < μ s) ∨ (∃ r, body s = some (.inr r) ∧ Q r)) : ∀ (fuel : Nat) (s : σ), I s → μ s < fuel → ∃ r, lpN body fuel s = some r ∧ Q r := by
  intro fuel
  induction fuel with
  | zero => intro s _ h; omega
  | succ f ih =>
    intro s hI hf
    rcases hs s hI with ⟨s', h1, h2, h3⟩ | ⟨r, h1, h2⟩
    · rw [lp_step h1]
      exact ih s' h2 (by omega)
    · exact ⟨r, lp_end h1, h2⟩
/-- up to the first k at which p holds, or to the end -/
theorem lp_find {σ ρ : Type} {body : σ → Option (σ ⊕ ρ)} (S : Nat → σ) (p : Nat → Prop) (N : Nat) (bad : Nat → ρ) (r : ρ) (hs : ∀ k, k < N → ¬ p k → body (S k) = some (.inl (S (k + 1)))) (hb : ∀ k, k < N → p k → body (S k) = some (.inr (bad k))) (he : body (S N) = some (.inr r)) {fuel : Nat} (hf : N < fuel) :
    ((∀ k, k < N → ¬ p k) ∧ lpN body fuel (S 0) = some r) ∨ ∃ k, k < N ∧ p k ∧ (∀ j, j < k → ¬ p j) ∧ lpN body fuel (S 0) = some (bad k) := by
  by_cases h : ∃ k, k < N ∧ p k
  · right
    obtain ⟨k, ⟨h1, h2⟩, h3⟩ := pk_least (fun k => k < N ∧ p k) h
    refine ⟨k, h1, h2, fun j hj hp => h3 j hj ⟨by omega, hp⟩, ?_⟩
    exact lp_run S k (bad k) (fun j hj => hs j (by omega) (fun hp => h3 j hj ⟨by omega, hp⟩)) (hb k h1 h2) (by omega)
  · left
    have h' : ∀ k, k < N → ¬ p k := fun k hk hp => h ⟨k, hk, hp⟩
    exact ⟨h', lp_run S N r (fun k hk => hs k hk (h' k hk)) he hf⟩
theorem gd_t {c : Prop} [Decidable c] {α : Type} {k : Option α} (h : c) : gd c k = k := by unfold gd; rw [if_pos h]
theorem okI_n {k N : Nat} (h : k < N) (hN : N < 2 ^ 31) : okI (nI k) N := vp_in_nI h hN
theorem okI_l {k N : Nat} (h : k < N) (hN : N < 2 ^ 31) : okI (OfNat.ofNat k : Int32) N := vp_in_nI h hN
theorem tcl (k : Nat) (h : k < 2 ^ 31) : (OfNat.ofNat k : Int32).toNatClampNeg = k := nI_clamp h
theorem nI_le_lit {a b : Nat} (ha : a < 2 ^ 31) (hb : b < 2 ^ 31) : ((OfNat.ofNat a : Int32) ≤ nI b) ↔ a ≤ b := nI_leI ha hb
theorem nI_inj {a b : Nat} (ha : a < 2 ^ 31) (hb : b < 2 ^ 31) (h : nI a = nI b) : a = b := (nI_eq ha hb).mp h
theorem nI_m1 {k : Nat} (h : 0 < k) : nI k + (-1 : Int32) = nI (k - 1) := sb_m1 h
/-- sums -/
def sI (f : Nat → Int32) : Nat → Int32
  | 0 => 0
  | n + 1 => sI f n + f n
def sL (f : Nat → Int64) : Nat → Int64
  | 0 => 0
  | n + 1 => sL f n + f n
theorem sI_congr {f g : Nat → Int32} {n : Nat} (h : ∀ k, k < n → f k = g k) : sI f n = sI g n := by
  induction n with
  | zero => rfl
  | succ n ih => rw [sI, sI, ih (fun k hk => h k (by omega)), h n (by omega)]
theorem sL_congr {f g : Nat → Int64} {n : Nat} (h : ∀ k, k < n → f k = g k) : sL f n = sL g n := by
  induction n with
  | zero => rfl
  | succ n ih => rw [sL, sL, ih (fun k hk => h k (by omega)), h n (by omega)]
theorem sL_add (f g : Nat → Int64) (n : Nat) : sL (fun k => f k + g k) n = sL f n + sL g n := by
  induction n with
  | zero => rfl
  | succ n ih => rw [sL, sL, sL, ih]; grind
theorem sL_mul (c : Int64) (f : Nat → Int64) (n : Nat) : sL (fun k => c * f k) n = c * sL f n := by
  induction n with
  | zero => show (0 : Int64) = c * 0; grind
  | succ n ih => rw [sL, sL, ih]; grind
theorem sL_zero (n : Nat) : sL (fun _ => 0) n = 0 := by
  induction n with
  | zero => rfl
  | succ n ih => rw [sL, ih]; rfl
theorem sL_swap (f : Nat → Nat → Int64) (m n : Nat) : sL (fun i => sL (fun j => f i j) n) m = sL (fun j => sL (fun i => f i j) m) n := by
  induction m with
  | zero => show (0 : Int64) = sL (fun j => 0) n; rw [sL_zero]
  | succ m ih =>
    show sL (fun i => sL (fun j => f i j) n) m + sL (fun j => f m j) n = sL (fun j => sL (fun i => f i j) m + f m j) n
    rw [ih, sL_add]
theorem sI_zero (n : Nat) : sI (fun _ => 0) n = 0 := by
  induction n with
  | zero => rfl
  | succ n ih => rw [sI, ih]; rfl
/-! the desk's matrix methods -/
theorem has_n {n k : Nat} (hk : k < n) (hn : n ≤ 7) : f_X4_has (nI n) (nI k) = some 1 := by
  unfold f_X4_has
  rw [if_neg (nI_pos (by omega)), if_neg (nI_ge hk (by omega))]
theorem has_no {n : Nat} {x : Int32} (hx : ∀ k, k < n → x ≠ nI k) (hn : n ≤ 7) : f_X4_has (nI n) x = some 0 := by
  unfold f_X4_has
  by_cases h : x < 0
  · rw [if_pos h]
  · rw [if_neg h]
    obtain ⟨j, h1, h2⟩ := nI_of h
    subst h2
    rw [if_pos]
    rw [nI_leI (by omega) h1]
    apply Decidable.byContradiction
    intro hc
    exact hx j (by omega) rfl
theorem line_cases (n : Nat) (x : Int32) : (∃ k, k < n ∧ x = nI k) ∨ (∀ k, k < n → x ≠ nI k) := by
  by_cases h : ∃ k, k < n ∧ x = nI k
  · exact Or.inl h
  · exact Or.inr (fun k hk e => h ⟨k, hk, e⟩)
theorem ix7 {r c : Nat} (hr : r < 7) (hc : c < 7) : nI r * (7 : Int32) + nI c = nI (7 * r + c) := by
  show nI r * nI 7 + nI c = nI (7 * r + c)
  rw [pk_mul, nI_add, Nat.mul_comm]
theorem ix7' {r c : Nat} (hr : r < 7) (hc : c < 7) : (7 : Int32) * nI r + nI c = nI (7 * r + c) := by
  show nI 7 * nI r + nI c = nI (7 * r + c)
  rw [pk_mul, nI_add]
theorem at_n {n r c : Nat} (hr : r < n) (hc : c < n) (hn : n ≤ 7) (z : Nat → Int32) : f_X4_at (nI n) z (nI r) (nI c) = some (z (7 * r + c)) := by
  unfold f_X4_at
  rw [has_n hr hn, has_n hc hn]
  show (if (1 : Int32) = 0 then _ else if (1 : Int32) = 0 then _ else _) = _
  rw [if_neg (by decide), if_neg (by decide), ix7 (by omega) (by omega), gd_t (okI_n (by omega) (by omega)), nI_clamp (by omega)]
theorem at_no {n : Nat} {x y : Int32} (h : (∀ k, k < n → x ≠ nI k) ∨ (∀ k, k < n → y ≠ nI k)) (hn : n ≤ 7) (z : Nat → Int32) : f_X4_at (nI n) z x y = some 0 := by
  unfold f_X4_at
  rcases line_cases n x with ⟨k, hk, rfl⟩ | hx
  · rw [has_n hk hn]
    rcases h with h | h
    · exact absurd rfl (h k hk)
    · rw [has_no h hn]
      show (if (1 : Int32) = 0 then _ else if (0 : Int32) = 0 then _ else _) = _
      rw [if_neg (by decide), if_pos rfl]
  · rw [has_no hx hn]
    show (if (0 : Int32) = 0 then _ else _) = _
    rw [if_pos rfl]
theorem put_n {n r c : Nat} (hr : r < n) (hc : c < n) (hn : n ≤ 7) (z : Nat → Int32) (v : Int32) : f_X4_put (nI n) z (nI r) (nI c) v = some (upd z (7 * r + c) v) := by
  unfold f_X4_put
  rw [has_n hr hn, has_n hc hn]
  show (if (1 : Int32) = 0 then _ else if (1 : Int32) = 0 then _ else _) = _
  rw [if_neg (by decide), if_neg (by decide), ix7 (by omega) (by omega), gd_t (okI_n (by omega) (by omega)), nI_clamp (by omega)]
  rfl
theorem resize_n {n : Nat} (h1 : 1 ≤ n) (h7 : n ≤ 7) (x : Int32) : f_X4_resize x (nI n) = some (nI n) := by
  unfold f_X4_resize
  rw [if_neg (nI_nlt (a := n) (b := 1) (by omega) (by omega)), if_neg (nI_nlt (a := 7) (b := n) (by omega) (by omega))]
