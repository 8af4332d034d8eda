/-! MATHEMATICS: what the model's expansions answer -/
theorem Od.push {o : Nat → Int32} {p : List Nat} (h : Od o p) (v : Nat) : Od (upd o p.length (nI v)) (p ++ [v]) := by
  intro i w hw
  unfold upd
  by_cases e : i = p.length
  · subst e
    rw [if_pos rfl]
    rw [List.getElem?_append_right (Nat.le_refl _), Nat.sub_self, List.getElem?_cons_zero] at hw
    rw [Option.some.inj hw]
  · rw [if_neg e]
    have : i < p.length := by
      have := (List.getElem?_eq_some_iff.mp hw).1
      rw [List.length_append] at this
      simp at this
      omega
    rw [List.getElem?_append_left this] at hw
    exact h i w hw
theorem Od.getD {o : Nat → Int32} {p : List Nat} (h : Od o p) {i : Nat} (hi : i < p.length) : o i = nI (p.getD i 0) := by
  refine h i _ ?_
  rw [List.getD_eq_getElem?_getD, List.getElem?_eq_getElem hi]
  rfl
def pL (f : Nat → Int64) : Nat → Int64
  | 0 => 1
  | n + 1 => pL f n * f n
theorem pL_shift (f : Nat → Int64) (n : Nat) : pL f (n + 1) = f 0 * pL (fun k => f (k + 1)) n := by
  induction n with
  | zero => show 1 * f 0 = f 0 * 1; grind
  | succ n ih => rw [pL, ih, pL]; grind
theorem pL_congr {f g : Nat → Int64} {n : Nat} (h : ∀ k, k < n → f k = g k) : pL f n = pL g n := by
  induction n with
  | zero => rfl
  | succ n ih => rw [pL, pL, ih (fun k hk => h k (by omega)), h n (by omega)]
theorem prodL_pL (cell : Nat → Nat → Int64) : ∀ (rs q : List Nat), rs.length = q.length → prodL cell rs q = pL (fun i => cell (rs.getD i 0) (q.getD i 0)) rs.length := by
  intro rs
  induction rs with
  | nil => intro q _; cases q <;> rfl
  | cons r rs ih =>
    intro q h
    cases q with
    | nil => cases h
    | cons a q =>
      rw [List.length_cons, pL_shift, prodL, ih q (by simpa using h)]
      rfl
/-- 0 or 1 for each entry -/
def mk (z : Nat → Int32) (r a : Nat) : Int64 := if z (7 * r + a) = 0 then 0 else 1
theorem toInt64_toInt (x : Int32) : x.toInt64.toInt = x.toInt := Int32.toInt_toInt64 x
theorem prodL_small {z : Nat → Int32} (hz : ∀ k, k < 49 → -20 ≤ (z k).toInt ∧ (z k).toInt ≤ 20) : ∀ (rs q : List Nat), rs.length ≤ 7 → (∀ v ∈ rs, v < 7) → (∀ v ∈ q, v < 7) → (prodL (cl z) rs q).toInt.natAbs ≤ 20 ^ rs.length ∧ (prodL (mk z) rs q = if (prodL (cl z) rs q).toInt = 0 then 0 else 1) := by
  intro rs
  induction rs with
  | nil => intro q _ _ _; cases q <;> exact ⟨by show (1 : Int64).toInt.natAbs ≤ 1; decide, by show (1 : Int64) = if (1 : Int64).toInt = 0 then 0 else 1; decide⟩
  | cons r rs ih =>
    intro q hl hr hq
    cases q with
    | nil =>
      refine ⟨?_, by show (1 : Int64) = _; rfl⟩
      show (1 : Int64).toInt.natAbs ≤ 20 ^ (rs.length + 1)
      have : 0 < 20 ^ (rs.length + 1) := Nat.pow_pos (by omega)
      show 1 ≤ _
      omega
    | cons a q =>
      obtain ⟨i1, i2⟩ := ih q (by simp at hl; omega) (fun v hv => hr v (List.mem_cons_of_mem _ hv)) (fun v hv => hq v (List.mem_cons_of_mem _ hv))
      have hr1 := hr r List.mem_cons_self
      have hq1 := hq a List.mem_cons_self
      obtain ⟨z1, z2⟩ := hz (7 * r + a) (by omega)
      have hpow : 20 ^ rs.length ≤ 20 ^ 6 := Nat.pow_le_pow_right (by omega) (by simp at hl; omega)
      have hx : (z (7 * r + a)).toInt.natAbs ≤ 20 := by omega
      have hmul : ((z (7 * r + a)).toInt * (prodL (cl z) rs q).toInt).natAbs ≤ 20 * 20 ^ rs.length := by
        rw [Int.natAbs_mul]
        exact Nat.mul_le_mul hx i1
      have hti : (prodL (cl z) (r :: rs) (a :: q)).toInt = (z (7 * r + a)).toInt * (prodL (cl z) rs q).toInt := by
        show (cl z r a * prodL (cl z) rs q).toInt = _
        rw [Int64.toInt_mul]
        show ((z (7 * r + a)).toInt64.toInt * _).bmod (2 ^ 64) = _
        rw [toInt64_toInt]
        refine Int.bmod_eq_of_le ?_ ?_
        · omega
        · omega
      refine ⟨?_, ?_⟩
      · rw [hti, List.length_cons, Nat.pow_succ, Nat.mul_comm (20 ^ _)]
        exact hmul
      · rw [hti]
        show mk z r a * prodL (mk z) rs q = _
        rw [i2]
        unfold mk
        by_cases h1 : z (7 * r + a) = 0
        · rw [if_pos h1, h1, show (0 : Int32).toInt = 0 from rfl, Int.zero_mul, if_pos rfl]
          grind
        · have h1' : (z (7 * r + a)).toInt ≠ 0 := fun hc => h1 (Int32_eq_of hc)
          rw [if_neg h1]
          by_cases h2 : (prodL (cl z) rs q).toInt = 0
          · rw [if_pos h2, h2, Int.mul_zero, if_pos rfl]
            rfl
          · rw [if_neg h2, if_neg (Int.mul_ne_zero h1' h2)]
            rfl
theorem lg_cmp0 (x : Int64) : (lg_cmp x (0 : Int64) = 0) ↔ x.toInt = 0 := by
  unfold lg_cmp
  by_cases h : x = 0
  · subst h
    decide
  · have h' : x.toInt ≠ 0 := fun hc => h (Int64.toInt_inj.mp hc)
    constructor
    · intro hc
      by_cases h2 : x > 0
      · rw [if_pos h2] at hc
        exact absurd hc (by decide)
      · rw [if_neg h2, if_neg h] at hc
        exact absurd hc (by decide)
    · intro hc
      exact absurd hc h'
/-- the entries, or whether they are 0 -/
def cm (b : Bool) (z : Nat → Int32) : Nat → Nat → Int64 := if b then mk z else cl z
theorem prm_range_map {m : Nat} {cs : List Nat} (hl : cs.length = m) (hn : cs.Nodup) : (prm m (List.range m)).map (List.map (fun i => cs.getD i 0)) = prm m cs := by
  have hmap : (List.range m).map (fun i => cs.getD i 0) = cs := by
    refine List.ext_getElem (by simp [hl]) (fun i h1 h2 => ?_)
    rw [List.getElem_map, List.getElem_range, List.getD_eq_getElem?_getD, List.getElem?_eq_getElem h2]
    rfl
  rw [← prm_map, hmap]
  intro x hx y hy he
  have hx' := List.mem_range.mp hx
  have hy' := List.mem_range.mp hy
  rw [List.getD_eq_getElem?_getD, List.getElem?_eq_getElem (by omega), List.getD_eq_getElem?_getD, List.getElem?_eq_getElem (by omega)] at he
  have hpw := List.pairwise_iff_getElem.mp hn
  have he' : cs[x]'(by omega) = cs[y]'(by omega) := he
  rcases Nat.lt_trichotomy x y with h | h | h
  · exact absurd he' (hpw x y (by omega) (by omega) h)
  · exact h
  · exact absurd he'.symm (hpw y x (by omega) (by omega) h)
theorem prm_range_mem {m : Nat} {q : List Nat} (h : q ∈ prm m (List.range m)) : q.length = m ∧ ∀ v ∈ q, v < m := by
  have := prm_perm m _ List.length_range q h
  exact ⟨by rw [this.length_eq, List.length_range], fun v hv => List.mem_range.mp (this.mem_iff.mp hv)⟩
