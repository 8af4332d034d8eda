/-! MATHEMATICS, part a: counters, loops, guards -/
theorem lit32 (n : Nat) : (OfNat.ofNat n : Int32) = nI n := rfl
theorem FU_lt {N : Nat} (h : N < 100000) : N < FU := h
theorem lp_step {σ ρ : Type} {body : σ → Option (σ ⊕ ρ)} {n : Nat} {s s' : σ} (h : body s = some (.inl s')) : lpN body (n + 1) s = lpN body n s' := by rw [lpN, h]
theorem lp_end {σ ρ : Type} {body : σ → Option (σ ⊕ ρ)} {n : Nat} {s : σ} {r : ρ} (h : body s = some (.inr r)) : lpN body (n + 1) s = some r := by rw [lpN, h]
/-- a loop that goes through the states S 0 .. S N and ends there -/
theorem lp_run {σ ρ : Type} {body : σ → Option (σ ⊕ ρ)} (S : Nat → σ) (N : Nat) (r : ρ) (hs : ∀ k, k < N → body (S k) = some (.inl (S (k + 1)))) (he : body (S N) = some (.inr r)) {fuel : Nat} (hf : N < fuel) : lpN body fuel (S 0) = some r := by
  have key : ∀ d k fuel, k + d = N → d < fuel → lpN body fuel (S k) = some r := by
    intro d
    induction d with
    | zero =>
      intro k fuel hk hf
      cases fuel with
      | zero => omega
      | succ f =>
        have : k = N := by omega
        subst this
        exact lp_end he
    | succ d ih =>
      intro k fuel hk hf
      cases fuel with
      | zero => omega
      | succ f =>
        rw [lp_step (hs k (by omega))]
        exact ih (k + 1) f (by omega) (by omega)
  exact key N 0 fuel (by omega) hf
/-- from a state on, with an invariant and a measure that falls -/
theorem lp_inv {σ ρ : Type} {body : σ → Option (σ ⊕ ρ)} (I : σ → Prop) (μ : σ → Nat) (Q : ρ → Prop) (hs : ∀ s, I s → (∃ s', body s = some (.inl s') ∧ I s' ∧ μ s' < μ s) ∨ (∃ r, body s = some (.inr r) ∧ Q r)) : ∀ (fuel : Nat) (s : σ), I s → μ s < fuel → ∃ r, lpN body fuel s = some r ∧ Q r := by
  intro fuel
  induction fuel with
  | zero => intro s _ h; omega
  | succ f ih =>
    intro s hI hf
    rcases hs s hI with ⟨s', h1, h2, h3⟩ | ⟨r, h1, h2⟩
    · rw [lp_step h1]
      exact ih s' h2 (by omega)
    · exact ⟨r, lp_end h1, h2⟩
/-- up to the first k at which p holds, or to the end -/
theorem lp_find {σ ρ : Type} {body : σ → Option (σ ⊕ ρ)} (S : Nat → σ) (p : Nat → Prop) (N : Nat) (bad : Nat → ρ) (r : ρ) (hs : ∀ k, k < N → ¬ p k → body (S k) = some (.inl (S (k + 1)))) (hb : ∀ k, k < N → p k → body (S k) = some (.inr (bad k))) (he : body (S N) = some (.inr r)) {fuel : Nat} (hf : N < fuel) :
    ((∀ k, k < N → ¬ p k) ∧ lpN body fuel (S 0) = some r) ∨ ∃ k, k < N ∧ p k ∧ (∀ j, j < k → ¬ p j) ∧ lpN body fuel (S 0) = some (bad k) := by
  by_cases h : ∃ k, k < N ∧ p k
  · right
    obtain ⟨k, ⟨h1, h2⟩, h3⟩ := pk_least (fun k => k < N ∧ p k) h
    refine ⟨k, h1, h2, fun j hj hp => h3 j hj ⟨by omega, hp⟩, ?_⟩
    exact lp_run S k (bad k) (fun j hj => hs j (by omega) (fun hp => h3 j hj ⟨by omega, hp⟩)) (hb k h1 h2) (by omega)
  · left
    have h' : ∀ k, k < N → ¬ p k := fun k hk hp => h ⟨k, hk, hp⟩
    exact ⟨h', lp_run S N r (fun k hk => hs k hk (h' k hk)) he hf⟩
theorem bs {α β : Type} (a : α) (f : α → Option β) : (some a).bind f = f a := rfl
theorem pl_e {β α : Type} (e : β) (k : β → Option α) : pl e k = k e := rfl
theorem gd_t {c : Prop} [Decidable c] {α : Type} {k : Option α} (h : c) : gd c k = k := by unfold gd; rw [if_pos h]
theorem okI_n {k N : Nat} (h : k < N) (hN : N < 2 ^ 31) : okI (nI k) N := vp_in_nI h hN
theorem okI_l {k N : Nat} (h : k < N) (hN : N < 2 ^ 31) : okI (OfNat.ofNat k : Int32) N := vp_in_nI h hN
theorem tcl (k : Nat) (h : k < 2 ^ 31) : (OfNat.ofNat k : Int32).toNatClampNeg = k := nI_clamp h
theorem nI_le_lit {a b : Nat} (ha : a < 2 ^ 31) (hb : b < 2 ^ 31) : ((OfNat.ofNat a : Int32) ≤ nI b) ↔ a ≤ b := nI_leI ha hb
theorem nI_inj {a b : Nat} (ha : a < 2 ^ 31) (hb : b < 2 ^ 31) (h : nI a = nI b) : a = b := (nI_eq ha hb).mp h
theorem nI_m1 {k : Nat} (h : 0 < k) : nI k + (-1 : Int32) = nI (k - 1) := sb_m1 h
/-- sums -/
def sI (f : Nat → Int32) : Nat → Int32
  | 0 => 0
  | n + 1 => sI f n + f n
def sL (f : Nat → Int64) : Nat → Int64
  | 0 => 0
  | n + 1 => sL f n + f n
theorem sI_congr {f g : Nat → Int32} {n : Nat} (h : ∀ k, k < n → f k = g k) : sI f n = sI g n := by
  induction n with
  | zero => rfl
  | succ n ih => rw [sI, sI, ih (fun k hk => h k (by omega)), h n (by omega)]
theorem sL_congr {f g : Nat → Int64} {n : Nat} (h : ∀ k, k < n → f k = g k) : sL f n = sL g n := by
  induction n with
  | zero => rfl
  | succ n ih => rw [sL, sL, ih (fun k hk => h k (by omega)), h n (by omega)]
theorem sL_add (f g : Nat → Int64) (n : Nat) : sL (fun k => f k + g k) n = sL f n + sL g n := by
  induction n with
  | zero => rfl
  | succ n ih => rw [sL, sL, sL, ih]; grind
theorem sL_mul (c : Int64) (f : Nat → Int64) (n : Nat) : sL (fun k => c * f k) n = c * sL f n := by
  induction n with
  | zero => show (0 : Int64) = c * 0; grind
  | succ n ih => rw [sL, sL, ih]; grind
theorem sL_zero (n : Nat) : sL (fun _ => 0) n = 0 := by
  induction n with
  | zero => rfl
  | succ n ih => rw [sL, ih]; rfl
theorem sL_swap (f : Nat → Nat → Int64) (m n : Nat) : sL (fun i => sL (fun j => f i j) n) m = sL (fun j => sL (fun i => f i j) m) n := by
  induction m with
  | zero => show (0 : Int64) = sL (fun j => 0) n; rw [sL_zero]
  | succ m ih =>
    show sL (fun i => sL (fun j => f i j) n) m + sL (fun j => f m j) n = sL (fun j => sL (fun i => f i j) m + f m j) n
    rw [ih, sL_add]
theorem sI_zero (n : Nat) : sI (fun _ => 0) n = 0 := by
  induction n with
  | zero => rfl
  | succ n ih => rw [sI, ih]; rfl
theorem gd_okI {k N : Nat} {α : Type} {K : Option α} (h : k < N) (hN : N < 2 ^ 31) : gd (okI (nI k) N) K = K := gd_t (okI_n h hN)
theorem nI_m1' {k : Nat} (h : 0 < k) : nI k + -nI 1 = nI (k - 1) := sb_m1 h
theorem nI_and31 {k : Nat} (h : k < 32) : nI k &&& nI 31 = nI k := by
  rw [pk_andN (by omega) 5 rfl, Nat.mod_eq_of_lt (by omega)]
/-! the desk's matrix methods -/
theorem has_n {n k : Nat} (hk : k < n) (hn : n ≤ 7) : f_X4_has (nI n) (nI k) = some 1 := by
  unfold f_X4_has
  simp (disch := omega) only [lit32, bs, pl_e, gd_okI, nI_leI, nI_ltI, nI_eq, nI_add, pk_mul, pk_sub, nI_m1', nI_clamp, if_pos, if_neg, ↓reduceIte]
theorem has_no {n : Nat} {x : Int32} (hx : ∀ k, k < n → x ≠ nI k) (hn : n ≤ 7) : f_X4_has (nI n) x = some 0 := by
  unfold f_X4_has
  by_cases h : x < 0
  · rw [if_pos h]
  · rw [if_neg h]
    obtain ⟨j, h1, h2⟩ := nI_of h
    subst h2
    have : n ≤ j := Decidable.byContradiction fun hc => hx j (by omega) rfl
    simp (disch := omega) only [lit32, bs, pl_e, gd_okI, nI_leI, nI_ltI, nI_eq, nI_add, pk_mul, pk_sub, nI_m1', nI_clamp, if_pos, if_neg, ↓reduceIte]
theorem line_cases (n : Nat) (x : Int32) : (∃ k, k < n ∧ x = nI k) ∨ (∀ k, k < n → x ≠ nI k) := by
  by_cases h : ∃ k, k < n ∧ x = nI k
  · exact Or.inl h
  · exact Or.inr (fun k hk e => h ⟨k, hk, e⟩)
theorem at_n {n r c : Nat} (hr : r < n) (hc : c < n) (hn : n ≤ 7) (z : Nat → Int32) : f_X4_at (nI n) z (nI r) (nI c) = some (z (7 * r + c)) := by
  unfold f_X4_at
  rw [has_n hr hn, has_n hc hn]
  simp (disch := omega) only [lit32, bs, pl_e, gd_okI, nI_leI, nI_ltI, nI_eq, nI_add, pk_mul, pk_sub, nI_m1', nI_clamp, if_pos, if_neg, ↓reduceIte]
  rw [Nat.mul_comm]
theorem at_no {n : Nat} {x y : Int32} (h : (∀ k, k < n → x ≠ nI k) ∨ (∀ k, k < n → y ≠ nI k)) (hn : n ≤ 7) (z : Nat → Int32) : f_X4_at (nI n) z x y = some 0 := by
  unfold f_X4_at
  rcases line_cases n x with ⟨k, hk, rfl⟩ | hx
  · rw [has_n hk hn]
    rcases h with h | h
    · exact absurd rfl (h k hk)
    · rw [has_no h hn]
      simp (disch := omega) only [lit32, bs, pl_e, gd_okI, nI_leI, nI_ltI, nI_eq, nI_add, pk_mul, pk_sub, nI_m1', nI_clamp, if_pos, if_neg, ↓reduceIte]
  · rw [has_no hx hn]
    simp (disch := omega) only [lit32, bs, pl_e, gd_okI, nI_leI, nI_ltI, nI_eq, nI_add, pk_mul, pk_sub, nI_m1', nI_clamp, if_pos, if_neg, ↓reduceIte]
theorem put_n {n r c : Nat} (hr : r < n) (hc : c < n) (hn : n ≤ 7) (z : Nat → Int32) (v : Int32) : f_X4_put (nI n) z (nI r) (nI c) v = some (upd z (7 * r + c) v) := by
  unfold f_X4_put
  rw [has_n hr hn, has_n hc hn]
  simp (disch := omega) only [lit32, bs, pl_e, gd_okI, nI_leI, nI_ltI, nI_eq, nI_add, pk_mul, pk_sub, nI_m1', nI_clamp, if_pos, if_neg, ↓reduceIte]
  rw [Nat.mul_comm]
theorem resize_n {n : Nat} (h1 : 1 ≤ n) (h7 : n ≤ 7) (x : Int32) : f_X4_resize x (nI n) = some (nI n) := by
  unfold f_X4_resize
  simp (disch := omega) only [lit32, bs, pl_e, gd_okI, nI_leI, nI_ltI, nI_eq, nI_add, pk_mul, pk_sub, nI_m1', nI_clamp, if_pos, if_neg, ↓reduceIte]
theorem fill_n {n : Nat} (h1 : 1 ≤ n) (h7 : n ≤ 7) (x : Int32) (z : Nat → Int32) : ∃ z', f_X4_fillWithZeros x z (nI n) = some (nI n, z') ∧ ∀ k, k < 49 → z' k = 0 := by
  refine ⟨fun k => if k < 49 then 0 else z k, ?_, fun k hk => if_pos hk⟩
  unfold f_X4_fillWithZeros
  have hl : lpN f_X4_fillWithZeros_L1 FU ((0 : Int32), z) = some (fun k => if k < 49 then 0 else z k) := by
    have h := lp_run (body := f_X4_fillWithZeros_L1) (fun j => (nI j, fun k => if k < j then 0 else z k)) 49 (fun k => if k < 49 then 0 else z k) (fun j hj => by
      rw [f_X4_fillWithZeros_L1]
      simp (disch := omega) only [lit32, bs, pl_e, gd_okI, nI_leI, nI_ltI, nI_eq, nI_add, pk_mul, pk_sub, nI_m1', nI_clamp, if_pos, if_neg, ↓reduceIte]
      congr 4
      funext k
      unfold upd
      by_cases e : k = j
      · subst e; simp
      · by_cases e2 : k < j
        · simp [e, e2, show k < j + 1 by omega]
        · simp [e, e2, show ¬ k < j + 1 by omega]) (by
      rw [f_X4_fillWithZeros_L1]
      simp (disch := omega) only [lit32, bs, pl_e, gd_okI, nI_leI, nI_ltI, nI_eq, nI_add, pk_mul, pk_sub, nI_m1', nI_clamp, if_pos, if_neg, ↓reduceIte]) (fuel := FU) (FU_lt (by omega))
    have e0 : (fun k => if k < 0 then (0 : Int32) else z k) = z := by funext k; simp
    rw [← h]
    show _ = lpN f_X4_fillWithZeros_L1 FU (nI 0, fun k => if k < 0 then (0 : Int32) else z k)
    rw [e0]
    rfl
  rw [hl]
  simp only [bs, resize_n h1 h7]
theorem copy_e (n : Int32) (z z' : Nat → Int32) (x : Int32) : f_X4_copyFrom x z n z' = some (n, va_cpy z' z 0 0 49) := by
  unfold f_X4_copyFrom
  rw [gd_t (by decide)]
  rfl
theorem cpy49 (z z' : Nat → Int32) {k : Nat} (hk : k < 49) : va_cpy z' z 0 0 49 k = z' k := by
  show (if 0 ≤ k ∧ k < 0 + 49 then z' (0 + (k - 0)) else z k) = z' k
  rw [if_pos (by omega), Nat.zero_add, Nat.sub_zero]
