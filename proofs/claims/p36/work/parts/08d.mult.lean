/-! THE LAW'S METHODS: a row times a number -/
def ab (x : Int32) : Nat := x.toInt.natAbs
theorem size_n {x : Int32} (h : -20 ≤ x.toInt ∧ x.toInt ≤ 20) : f_L_size x = some (nI (ab x)) := by
  rw [size_c]
  congr 1
  refine Int32_eq_of ?_
  have hb : ab x ≤ 20 := by unfold ab; omega
  rw [nI_toInt (by omega)]
  unfold ab
  by_cases e : 0 ≤ x
  · rw [if_pos e]
    rw [Int32.le_iff_toInt_le, show (0 : Int32).toInt = 0 by decide] at e
    omega
  · rw [if_neg e]
    rw [Int32.le_iff_toInt_le, show (0 : Int32).toInt = 0 by decide] at e
    rw [Int32.toInt_neg, Int.bmod_eq_of_le (by omega) (by omega)]
    omega
def mst (x : Nat → Int32) : Nat → Nat
  | 0 => 0
  | k + 1 => if ab (x k) ≤ mst x k then mst x k else ab (x k)
theorem mst_le {x : Nat → Int32} {n : Nat} (h : ∀ k, k < n → ab (x k) ≤ 20) : mst x n ≤ 20 := by
  induction n with
  | zero => show 0 ≤ 20; omega
  | succ n ih =>
    rw [mst]
    have h1 := ih (fun k hk => h k (by omega))
    have h2 := h n (by omega)
    split <;> omega
theorem mst_bad (x : Nat → Int32) (F n : Nat) : 20 < mst x n * F ↔ ∃ k, k < n ∧ 20 < ab (x k) * F := by
  induction n with
  | zero =>
    constructor
    · intro h
      rw [mst, Nat.zero_mul] at h
      omega
    · rintro ⟨k, hk, -⟩; omega
  | succ n ih =>
    rw [mst]
    by_cases e : ab (x n) ≤ mst x n
    · rw [if_pos e, ih]
      constructor
      · rintro ⟨k, hk, h⟩; exact ⟨k, by omega, h⟩
      · rintro ⟨k, hk, h⟩
        by_cases ek : k = n
        · subst ek
          have := Nat.mul_le_mul_right F e
          exact ih.mp (by omega)
        · exact ⟨k, by omega, h⟩
    · rw [if_neg e]
      constructor
      · intro h; exact ⟨n, by omega, h⟩
      · rintro ⟨k, hk, h⟩
        by_cases ek : k = n
        · subst ek; exact h
        · have h2 := ih.mpr ⟨k, by omega, h⟩
          have := Nat.mul_le_mul_right F (show mst x n ≤ ab (x n) by omega)
          omega
theorem bad_ab {x f : Int32} (hx : -20 ≤ x.toInt ∧ x.toInt ≤ 20) (hf : -9 ≤ f.toInt ∧ f.toInt ≤ 9) : bad x f ↔ 20 < ab x * ab f := by
  obtain ⟨h1, h2⟩ := mul_toInt hx hf
  unfold bad
  rw [Int32.lt_iff_toInt_lt, Int32.lt_iff_toInt_lt, h1, show (-20 : Int32).toInt = -20 by decide, show (20 : Int32).toInt = 20 by decide]
  unfold ab
  rw [← Int.natAbs_mul]
  omega
theorem set_factor {y : Nat} (hy : y < 2 ^ 31) : ∃ f : Int32, (-9 ≤ f.toInt ∧ f.toInt ≤ 9) ∧ (if ((nI y / (7 : Int32)) - (nI y / (7 : Int32)) / (3 : Int32) * (3 : Int32)) = 0 then some (((nI y / (21 : Int32)) - (nI y / (21 : Int32)) / (19 : Int32) * (19 : Int32)) - (9 : Int32)) else some (((nI y / (21 : Int32)) - (nI y / (21 : Int32)) / (5 : Int32) * (5 : Int32)) - (2 : Int32))) = some f := by
  have e1 : ((nI y / (21 : Int32)) - (nI y / (21 : Int32)) / (19 : Int32) * (19 : Int32)) = nI (y / 21 % 19) := by
    rw [show (21 : Int32) = nI 21 from rfl, n_div y 21 hy (by omega) (by omega)]
    exact n_rem (y / 21) 19 (dlt hy) (by omega) (by omega)
  have e2 : ((nI y / (21 : Int32)) - (nI y / (21 : Int32)) / (5 : Int32) * (5 : Int32)) = nI (y / 21 % 5) := by
    rw [show (21 : Int32) = nI 21 from rfl, n_div y 21 hy (by omega) (by omega)]
    exact n_rem (y / 21) 5 (dlt hy) (by omega) (by omega)
  rw [e1, e2]
  have h1 : y / 21 % 19 < 19 := Nat.mod_lt _ (by omega)
  have h2 : y / 21 % 5 < 5 := Nat.mod_lt _ (by omega)
  split
  · refine ⟨_, ?_, rfl⟩
    rw [show (9 : Int32) = nI 9 from rfl, pk_sub_toInt (by omega) (by omega)]
    omega
  · refine ⟨_, ?_, rfl⟩
    rw [show (2 : Int32) = nI 2 from rfl, pk_sub_toInt (by omega) (by omega)]
    omega
theorem mloop_c {n i : Nat} {m z : Nat → Int32} (h : Mx n m z) (hi : i < n) : lpN (f_L_multiply_L1 (nI n) (nI i) (nI n) m) FU ((0 : Int32), (0 : Int32), (0 : Int32)) = some (nI (mst (fun q => z (7 * i + q)) n), nI (cntB (fun q => decide (¬ z (7 * i + q) = 0)) n)) := by
  obtain ⟨h1, h7, hcz, hz, h0, hb⟩ := id h
  have hbz : ∀ q, q < n → -20 ≤ (z (7 * i + q)).toInt ∧ (z (7 * i + q)).toInt ≤ 20 := fun q hq => hb _ (by omega)
  have hab : ∀ q, q < n → ab (z (7 * i + q)) ≤ 20 := fun q hq => by
    have := hbz q hq
    unfold ab
    omega
  exact lp_run (body := f_L_multiply_L1 (nI n) (nI i) (nI n) m) (fun k => (nI (mst (fun q => z (7 * i + q)) k), nI (cntB (fun q => decide (¬ z (7 * i + q) = 0)) k), nI k)) n _ (fun k hk => by
    have hm := mst_le (x := fun q => z (7 * i + q)) (n := k) (fun q hq => hab q (by omega))
    have hak := hab k hk
    rw [f_L_multiply_L1, if_neg (nI_ge hk (by omega)), entry_c h hi hk, bs, size_n (hbz k hk), bs, cntB, mst]
    have e1 : (if nI (ab (z (7 * i + k))) ≤ nI (mst (fun q => z (7 * i + q)) k) then some (nI (mst (fun q => z (7 * i + q)) k)) else (some (z (7 * i + k))).bind fun r_14 => (f_L_size r_14).bind fun r_16 => some r_16) = some (nI (if ab (z (7 * i + k)) ≤ mst (fun q => z (7 * i + q)) k then mst (fun q => z (7 * i + q)) k else ab (z (7 * i + k)))) := by
      by_cases e : ab (z (7 * i + k)) ≤ mst (fun q => z (7 * i + q)) k
      · rw [if_pos e, if_pos ((nI_leI (by omega) (by omega)).mpr e)]
      · rw [if_neg e, if_neg (fun hh => e ((nI_leI (by omega) (by omega)).mp hh)), bs, size_n (hbz k hk), bs]
    rw [e1, bs, bs]
    by_cases e : z (7 * i + k) = 0
    · rw [if_pos e, pl_e, pl_e, nI_1, if_neg (show ¬ (decide (¬ z (7 * i + k) = 0) = true) by simpa using e)]
      congr 4
      show _ + nI 0 = _
      rw [nI_add]
    · rw [if_neg e, pl_e, pl_e, nI_1, nI_1, if_pos (show decide (¬ z (7 * i + k) = 0) = true by simpa using e)]) (by
    rw [f_L_multiply_L1, if_pos (nI_le (Nat.le_refl _) (by omega))]) (FU_lt (by omega))
theorem PM_mul {n i : Nat} {z : Nat → Int32} {f : Int32} (hn : n ≤ 7) (hi : i < n) (hz : ∀ k, k < 49 → -20 ≤ (z k).toInt ∧ (z k).toInt ≤ 20) (hf : -9 ≤ f.toInt ∧ f.toInt ≤ 9) : PM n (mkz n (fun r q => if r = i then z (7 * r + q) * f else z (7 * r + q))) = f.toInt64 * PM n z := mul_val false hn hi hz hf
theorem DT_mul {n i : Nat} {z : Nat → Int32} {f : Int32} (hn : n ≤ 7) (hi : i < n) (hz : ∀ k, k < 49 → -20 ≤ (z k).toInt ∧ (z k).toInt ≤ 20) (hf : -9 ≤ f.toInt ∧ f.toInt ≤ 9) : DT n (mkz n (fun r q => if r = i then z (7 * r + q) * f else z (7 * r + q))) = f.toInt64 * DT n z := mul_val true hn hi hz hf
theorem mul_c {n o c y : Nat} {S : Nat → Int32} {C : Nat → Nat → Int32} {m z : Nat → Int32} (hM : Mx n m z) (hH : Hs o c S C) (hy : y < 2 ^ 31) (ns : Int32) (nc : Nat → Int32) (ln : Int32) (t : Nat → Int64) :
    ∃ r n' m' ns' nc' o' c' S' C' t', f_L_multiply (nI n) m ns nc (nI o) (nI c) (S 0) (C 0) (S 1) (C 1) (S 2) (C 2) (S 3) (C 3) ln t (nI y) = some (r, nI n', m', ns', nc', nI o', nI c', S' 0, C' 0, S' 1, C' 1, S' 2, C' 2, S' 3, C' 3, t') ∧ Ac n z c r n' m' o' c' S' C' := by
  have hM' := hM
  obtain ⟨h1, h7, hcz, hz, h0, hb⟩ := hM
  obtain ⟨r1, -, hr, -⟩ := row_col h1 h7 hy
  obtain ⟨f, hf, e9⟩ := set_factor hy
  generalize hi : y % n = i at r1 hr
  have hbz : ∀ q, q < n → -20 ≤ (z (7 * i + q)).toInt ∧ (z (7 * i + q)).toInt ≤ 20 := fun q hq => hb _ (by omega)
  have hab : ∀ q, q < n → ab (z (7 * i + q)) ≤ 20 := fun q hq => by
    have := hbz q hq
    unfold ab
    omega
  have haf : ab f ≤ 9 := by unfold ab; omega
  have hf1 : ¬ f < (-9 : Int32) := by rw [Int32.lt_iff_toInt_lt, show (-9 : Int32).toInt = -9 by decide]; omega
  have hf2 : f ≤ (9 : Int32) := by rw [Int32.le_iff_toInt_le, show (9 : Int32).toInt = 9 by decide]; omega
  have hms := mst_le (x := fun q => z (7 * i + q)) (n := n) hab
  have hprod : mst (fun q => z (7 * i + q)) n * ab f ≤ 20 * 9 := Nat.mul_le_mul hms haf
  have hbad : (∃ q, q < n ∧ bad (z (7 * i + q)) f) ↔ 20 < mst (fun q => z (7 * i + q)) n * ab f := by
    rw [mst_bad]
    constructor
    · rintro ⟨q, hq, h⟩; exact ⟨q, hq, (bad_ab (hbz q hq) hf).mp h⟩
    · rintro ⟨q, hq, h⟩; exact ⟨q, hq, (bad_ab (hbz q hq) hf).mpr h⟩
  unfold f_L_multiply
  rw [total0_c, bs, gd_t (nI_ne h1 h7), pl_e, r1, e9, bs, mloop_c hM' hr, bs]
  dsimp only
  rw [lineSum_c hM' hr, bs]
  obtain ⟨t1, p1⟩ := permanent_c hM' t
  obtain ⟨t2, p2⟩ := determinant_c hM' t1
  rw [p1, bs]
  dsimp only
  rw [p2, bs]
  dsimp only
  have hdu := du_mul hM' hr hf
  have hcle := cntB_le (fun q => decide (¬ z (7 * i + q) = 0)) n
  have hsz : f_L_size f = some (nI (ab f)) := size_n (by omega)
  have ey : (if f = (1 : Int32) then some (-2000000005 : Int32) else if nI (cntB (fun q => decide (¬ z (7 * i + q) = 0)) n) = 0 then some (-2000000005 : Int32) else some (nI (cntB (fun q => decide (¬ z (7 * i + q) = 0)) n))) = some (if du (mkz n (fun r q => if r = i then z (7 * r + q) * f else z (7 * r + q))) z = 0 then (-2000000005 : Int32) else nI (du (mkz n (fun r q => if r = i then z (7 * r + q) * f else z (7 * r + q))) z)) := by
    rw [hdu]
    by_cases e : f = 1
    · rw [if_pos e, if_pos e, if_pos rfl]
    · rw [if_neg e, if_neg e, nI_if (by omega)]
  rcases multiply_c hM' hH hr ns nc hf1 hf2 with ⟨d, nc', g1⟩ | ⟨d, ⟨d2, nc', g1⟩ | ⟨d2, nc', o', S', C', m', g1, g2, g3, g4⟩⟩
  · rw [g1, bs]
    dsimp only
    rw [hsz, bs, pk_mul, if_neg (show ¬ nI (mst (fun q => z (7 * i + q)) n * ab f) ≤ (20 : Int32) from fun hh => by
      have h3 := (nI_leI (b := 20) (by omega) (by omega)).mp hh
      have := hbad.mp d
      omega), if_pos rfl]
    exact ⟨_, n, m, _, _, o, c, S, C, _, rfl, hH, Or.inl ⟨rfl, rfl, rfl, hM'⟩⟩
  · rw [g1, bs]
    dsimp only
    have hle : nI (mst (fun q => z (7 * i + q)) n * ab f) ≤ (20 : Int32) := (nI_leI (b := 20) (by omega) (by omega)).mpr (Nat.not_lt.mp (fun hh => d (hbad.mpr hh)))
    have hszz : ∀ k, k < 49 → mkz n (fun r q => if r = i then z (7 * r + q) * f else z (7 * r + q)) k = z k := fun k hk => by
      have := cntB_zero (P := dn (mkz n (fun r q => if r = i then z (7 * r + q) * f else z (7 * r + q))) z) (n := 49) d2 k hk
      unfold dn at this
      simpa using this
    have hMz : Mx n m (mkz n (fun r q => if r = i then z (7 * r + q) * f else z (7 * r + q))) := hM'.congr (fun _ _ => rfl) (fun k hk => by
      by_cases e : k = 49
      · subst e; rw [mkz_49, hz]
      · exact hszz k (by omega))
    obtain ⟨t3, p4⟩ := permanent_c hMz t2
    obtain ⟨t4, p5⟩ := determinant_c hMz t3
    rw [hsz, bs, pk_mul, if_pos hle, ey, bs, if_pos d2, if_pos rfl, lineSum_c hMz hr, bs, if_pos (rowSum_mul h7 hr), p4, bs]
    dsimp only
    rw [if_pos (cmp_eq (PM_mul h7 hr hb hf)), p5, bs]
    dsimp only
    rw [if_pos (cmp_eq (DT_mul h7 hr hb hf)), bs]
    dsimp only
    rw [if_neg i10, if_pos rfl]
    exact ⟨_, n, m, _, _, o, c, S, C, _, rfl, hH, Or.inl ⟨rfl, rfl, rfl, hM'⟩⟩
  · rw [g1, bs]
    dsimp only
    have hle : nI (mst (fun q => z (7 * i + q)) n * ab f) ≤ (20 : Int32) := (nI_leI (b := 20) (by omega) (by omega)).mpr (Nat.not_lt.mp (fun hh => d (hbad.mpr hh)))
    obtain ⟨t3, p4⟩ := permanent_c g4 t2
    obtain ⟨t4, p5⟩ := determinant_c g4 t3
    have hdle : du (mkz n (fun r q => if r = i then z (7 * r + q) * f else z (7 * r + q))) z ≤ 49 := cntB_le _ _
    rw [hsz, bs, pk_mul, if_pos hle, ey, bs, if_neg d2, if_pos rfl, lineSum_c g4 hr, bs, if_pos (rowSum_mul h7 hr), p4, bs]
    dsimp only
    rw [if_pos (cmp_eq (PM_mul h7 hr hb hf)), p5, bs]
    dsimp only
    rw [if_pos (cmp_eq (DT_mul h7 hr hb hf)), bs]
    dsimp only
    rw [if_neg i10, if_neg (nN hdle)]
    exact ⟨_, n, m', _, _, o', _, S', C', _, rfl, g2, Or.inr ⟨rfl, rfl, ⟨_, g4⟩, g3⟩⟩
