/-! THE LAW'S METHODS: numbers, and what is seen of the state -/
theorem n_rem (y d : Nat) (hy : y < 2 ^ 31) (h0 : 0 < d) (hd : d < 2 ^ 31) : nI y - nI y / nI d * nI d = nI (y % d) := pk_rem hy h0 hd
theorem n_div (y d : Nat) (hy : y < 2 ^ 31) (h0 : 0 < d) (hd : d < 2 ^ 31) : nI y / nI d = nI (y / d) := pk_div hy h0 hd
theorem dlt {y d : Nat} (hy : y < 2 ^ 31) : y / d < 2 ^ 31 := Nat.lt_of_le_of_lt (Nat.div_le_self _ _) hy
theorem nI_ne {n : Nat} (h1 : 1 ≤ n) (hn : n ≤ 7) : ¬ nI n = 0 := nI_ne0 (by omega) (by omega)
/-- what is seen of an entry -/
def ev (n : Nat) (z : Nat → Int32) (k : Nat) : Int32 := if k / 7 < n ∧ k % 7 < n then z k else -2000000001
def snv (n : Nat) (z : Nat → Int32) : Nat → Int64
  | 0 => (71 : Int64) + (nI n).toInt64
  | k + 1 => (31 : Int64) * snv n z k + (ev n z k).toInt64
def SN (n : Nat) (z : Nat → Int32) : Int64 := snv n z 49
theorem seen_c {n : Nat} {m z : Nat → Int32} (h : Mx n m z) (hc ln : Int32) : f_L_seen (nI n) m hc ln = some (SN n z) := by
  have h' := h
  obtain ⟨h1, h7, hcz, hz, h0, hb⟩ := h
  unfold f_L_seen
  rw [total0_c, bs, pl_e]
  have hL := lp_cnt (body := f_L_seen_L1 (nI n) m) (fun j => snv n z j) 49 (SN n z) (fun j hj => by
    have e9 : f_X9_entry (nI n) m (nI (j / 7)) (nI (j % 7)) = some (ev n z j) := by
      unfold ev
      by_cases hi : j / 7 < n ∧ j % 7 < n
      · rw [if_pos hi, entry_c h' hi.1 hi.2, show 7 * (j / 7) + j % 7 = j by omega]
      · rw [if_neg hi]
        refine entry_u h7 ?_
        by_cases h3 : j / 7 < n
        · right
          intro k hk e
          have := nI_inj (a := j % 7) (b := k) (by omega) (by omega) e
          omega
        · left
          intro k hk e
          have := nI_inj (a := j / 7) (b := k) (by omega) (by omega) e
          omega
    rw [f_L_seen_L1, if_neg (show ¬ (49 : Int32) ≤ nI j from nI_ge (b := 49) hj (by omega)), show (7 : Int32) = nI 7 from rfl, n_rem j 7 (by omega) (by omega) (by omega), n_div j 7 (by omega) (by omega) (by omega), e9, bs, pl_e, pl_e, nI_1]
    rfl) (by
    rw [f_L_seen_L1, if_pos (show (49 : Int32) ≤ nI 49 by decide)]
    rfl) (by omega)
  have hL' : lpN (f_L_seen_L1 (nI n) m) FU ((71 : Int64) + (nI n).toInt64, (0 : Int32)) = some (SN n z) := hL
  rw [hL', bs]
theorem size_c (x : Int32) : f_L_size x = some (if 0 ≤ x then x else -x) := by
  unfold f_L_size
  split <;> rfl
/-- how an act ends: 0, and nothing is changed; or 1, and one state is recorded -/
def Ac (n : Nat) (z : Nat → Int32) (c : Nat) (r : Int32) (n' : Nat) (m' : Nat → Int32) (o' c' : Nat) (S' : Nat → Int32) (C' : Nat → Nat → Int32) : Prop := Hs o' c' S' C' ∧ ((r = 0 ∧ c' = c ∧ n' = n ∧ Mx n' m' z) ∨ (r = 1 ∧ c' = cn1 c ∧ (∃ z', Mx n' m' z') ∧ Tp o' c' S' C' n z))
theorem cmp_eq {x y : Int64} (h : x = y) : lg_cmp x y = 0 := (lg_cmp_eq x y).mpr h
theorem nN {k : Nat} (hk : k ≤ 49) : ¬ nI k = (-2000000005 : Int32) := by
  have : ∀ k, k ≤ 49 → ¬ nI k = (-2000000005 : Int32) := by decide
  exact this k hk
theorem zN {x : Int32} (h : -20 ≤ x.toInt ∧ x.toInt ≤ 20) : ¬ x = (-2000000005 : Int32) := fun e => by
  rw [e, show (-2000000005 : Int32).toInt = -2000000005 by decide] at h
  omega
theorem set_entry {y : Nat} (hy : y < 2 ^ 31) : ∃ e : Int32, (-20 ≤ e.toInt ∧ e.toInt ≤ 20) ∧ (if ((nI y / (49 : Int32)) - (nI y / (49 : Int32)) / (3 : Int32) * (3 : Int32)) = 0 then some (((nI y / (147 : Int32)) - (nI y / (147 : Int32)) / (41 : Int32) * (41 : Int32)) - (20 : Int32)) else some (((nI y / (147 : Int32)) - (nI y / (147 : Int32)) / (5 : Int32) * (5 : Int32)) - (1 : Int32))) = some e := by
  have e1 : ((nI y / (147 : Int32)) - (nI y / (147 : Int32)) / (41 : Int32) * (41 : Int32)) = nI (y / 147 % 41) := by
    rw [show (147 : Int32) = nI 147 from rfl, n_div y 147 hy (by omega) (by omega)]
    exact n_rem (y / 147) 41 (dlt hy) (by omega) (by omega)
  have e2 : ((nI y / (147 : Int32)) - (nI y / (147 : Int32)) / (5 : Int32) * (5 : Int32)) = nI (y / 147 % 5) := by
    rw [show (147 : Int32) = nI 147 from rfl, n_div y 147 hy (by omega) (by omega)]
    exact n_rem (y / 147) 5 (dlt hy) (by omega) (by omega)
  rw [e1, e2]
  have h1 : y / 147 % 41 < 41 := Nat.mod_lt _ (by omega)
  have h2 : y / 147 % 5 < 5 := Nat.mod_lt _ (by omega)
  split
  · refine ⟨_, ?_, rfl⟩
    rw [show (20 : Int32) = nI 20 from rfl, pk_sub_toInt (by omega) (by omega)]
    omega
  · refine ⟨_, ?_, rfl⟩
    rw [show (1 : Int32) = nI 1 from rfl, pk_sub_toInt (by omega) (by omega)]
    omega
theorem row_col {n y : Nat} (h1 : 1 ≤ n) (hn : n ≤ 7) (hy : y < 2 ^ 31) : (nI y - nI y / nI n * nI n) = nI (y % n) ∧ ((nI y / (7 : Int32)) - (nI y / (7 : Int32)) / nI n * nI n) = nI (y / 7 % n) ∧ y % n < n ∧ y / 7 % n < n := by
  refine ⟨n_rem y n hy (by omega) (by omega), ?_, Nat.mod_lt _ (by omega), Nat.mod_lt _ (by omega)⟩
  rw [show (7 : Int32) = nI 7 from rfl, n_div y 7 hy (by omega) (by omega)]
  exact n_rem (y / 7) n (dlt hy) (by omega) (by omega)
/-! an entry is set -/
theorem setEntry_c {n o c y : Nat} {S : Nat → Int32} {C : Nat → Nat → Int32} {m z : Nat → Int32} (hM : Mx n m z) (hH : Hs o c S C) (hy : y < 2 ^ 31) (ns : Int32) (nc : Nat → Int32) (ln : Int32) (t : Nat → Int64) :
    ∃ r n' m' ns' nc' o' c' S' C' t', f_L_setEntry (nI n) m ns nc (nI o) (nI c) (S 0) (C 0) (S 1) (C 1) (S 2) (C 2) (S 3) (C 3) ln t (nI y) = some (r, nI n', m', ns', nc', nI o', nI c', S' 0, C' 0, S' 1, C' 1, S' 2, C' 2, S' 3, C' 3, t') ∧ Ac n z c r n' m' o' c' S' C' := by
  have hM' := hM
  obtain ⟨h1, h7, hcz, hz, h0, hb⟩ := hM
  obtain ⟨r1, r2, hr, hq⟩ := row_col h1 h7 hy
  obtain ⟨e, he, e9⟩ := set_entry hy
  generalize hi : y % n = i at r1 hr
  generalize hj : y / 7 % n = j at r2 hq
  unfold f_L_setEntry
  rw [total0_c, bs, gd_t (nI_ne h1 h7), pl_e, gd_t (nI_ne h1 h7), pl_e, r1, r2, e9, bs, entry_c hM' hr hq, bs]
  obtain ⟨t1, p1⟩ := permanent_c hM' t
  obtain ⟨t2, p2⟩ := minor_c hM' hr hq t1
  rw [p1, bs]
  dsimp only
  rw [p2, bs]
  dsimp only
  rcases set_c hM' hH hr hq ns nc he with ⟨d, g1⟩ | ⟨d, nc', o', S', C', m', g1, g2, g3, g4⟩
  · -- nothing new
    rw [g1, bs]
    dsimp only
    obtain ⟨t3, p3⟩ := minor_c hM' hr hq t2
    obtain ⟨t4, p4⟩ := permanent_c hM' t3
    have e5 : (e - z (7 * i + j)).toInt64 = 0 := by
      rw [d, Int32.sub_self]
      rfl
    rw [if_pos d, bs, if_pos rfl, entry_c hM' hr hq, bs, if_pos d, p3, bs]
    dsimp only
    rw [if_pos (cmp_eq rfl), p4, bs]
    dsimp only
    rw [if_pos (cmp_eq (by rw [e5]; grind)), bs]
    dsimp only
    rw [if_neg i10, if_pos rfl]
    exact ⟨_, n, m, _, _, o, c, S, C, _, rfl, hH, Or.inl ⟨rfl, rfl, rfl, hM'⟩⟩
  · rw [g1, bs]
    dsimp only
    obtain ⟨t3, p3⟩ := minor_c g4 hr hq t2
    obtain ⟨t4, p4⟩ := permanent_c g4 t3
    obtain ⟨q1, q2⟩ := PM_set (e := e) (z := z) h7 hr hq
    have hbz := hb (7 * i + j) (by omega)
    rw [if_neg d, bs, if_pos rfl, entry_c g4 hr hq, bs, if_pos (by rw [upd_at, if_pos rfl]), p3, bs]
    dsimp only
    rw [if_pos (cmp_eq q2), p4, bs]
    dsimp only
    rw [if_pos (cmp_eq (by rw [q1, i64_sub he hbz])), bs]
    dsimp only
    rw [if_neg i10, if_neg (zN hbz)]
    exact ⟨_, n, m', _, _, o', _, S', C', _, rfl, g2, Or.inr ⟨rfl, rfl, ⟨_, g4⟩, g3⟩⟩
