/-! MATHEMATICS, the class alone: its changes, with the matrix that comes -/
def cn1 (c : Nat) : Nat := if c < 4 then c + 1 else 4
def Hs (o c : Nat) (S : Nat → Int32) (C : Nat → Nat → Int32) : Prop := o < 4 ∧ c ≤ 4 ∧ ∀ i, i < c → ∃ (n : Nat) (z : Nat → Int32), S ((o + i) % 4) = nI n ∧ Mx n (C ((o + i) % 4)) z
/-- the latest of the states that undo can bring back -/
def Tp (o c : Nat) (S : Nat → Int32) (C : Nat → Nat → Int32) (n : Nat) (z : Nat → Int32) : Prop := 0 < c ∧ S ((o + (c - 1)) % 4) = nI n ∧ Mx n (C ((o + (c - 1)) % 4)) z
theorem record_c {o c n : Nat} {S : Nat → Int32} {C : Nat → Nat → Int32} (h : Hs o c S C) {m row : Nat → Int32} (hm : Mx n m row) :
    ∃ o' S' C', f_X3_record (nI o) (nI c) (S 0) (C 0) (S 1) (C 1) (S 2) (C 2) (S 3) (C 3) (nI n) m = some (nI o', nI (cn1 c), S' 0, C' 0, S' 1, C' 1, S' 2, C' 2, S' 3, C' 3) ∧ Hs o' (cn1 c) S' C' ∧ Tp o' (cn1 c) S' C' n row := by
  obtain ⟨ho, hc, hi⟩ := h
  have hj : (o + c) % 4 < 4 := Nat.mod_lt _ (by omega)
  have e9 : ∀ j : Nat, f_X4_copyFrom (S j) (C j) (nI n) m = some (nI n, va_cpy m (C j) 0 0 49) := fun j => copy_e _ _ _ _
  have hw : ∀ j k, k < 49 → va_cpy m (C j) 0 0 49 k = m k := fun j k hk => cpy49 _ _ hk
  by_cases hc4 : c = 4
  · subst hc4
    refine ⟨(o + 1) % 4, upd S ((o + 4) % 4) (nI n), updC C ((o + 4) % 4) (va_cpy m (C ((o + 4) % 4)) 0 0 49), ?_, ?_, ?_⟩
    · rw [show cn1 4 = 4 from rfl]
      unfold f_X3_record
      rw [placeOf_n ho (by omega), show (nI o + (1 : Int32) - (nI o + (1 : Int32)) / (4 : Int32) * (4 : Int32)) = nI ((o + 1) % 4) from rem4 (i := 1) ho (by omega)]
      simp only [e9]
      have e : (o + 4) % 4 = 0 ∨ (o + 4) % 4 = 1 ∨ (o + 4) % 4 = 2 ∨ (o + 4) % 4 = 3 := by omega
      rcases e with e | e | e | e <;> rw [e] <;> simp (disch := omega) only [lit32, bs, pl_e, gd_okI, nI_leI, nI_ltI, nI_eq, nI_add, pk_mul, pk_sub, nI_m1', nI_clamp, if_pos, if_neg, ↓reduceIte, upd, updC] <;> rfl
    · rw [show cn1 4 = 4 from rfl]
      refine ⟨Nat.mod_lt _ (by omega), by omega, fun i hi4 => ?_⟩
      by_cases e3 : i = 3
      · subst e3
        have e : ((o + 1) % 4 + 3) % 4 = (o + 4) % 4 := by omega
        refine ⟨n, row, ?_, ?_⟩
        · rw [e]; unfold upd; rw [if_pos rfl]
        · rw [e]; unfold updC; rw [if_pos rfl]; exact hm.congr (hw _) (fun _ _ => rfl)
      · have e : ((o + 1) % 4 + i) % 4 = (o + (i + 1)) % 4 := by omega
        have en : (o + (i + 1)) % 4 ≠ (o + 4) % 4 := by omega
        obtain ⟨n', z', g1, g2⟩ := hi (i + 1) (by omega)
        refine ⟨n', z', ?_, ?_⟩
        · rw [e]; unfold upd; rw [if_neg en]; exact g1
        · rw [e]; unfold updC; rw [if_neg en]; exact g2
    · rw [show cn1 4 = 4 from rfl]
      have e : ((o + 1) % 4 + (4 - 1)) % 4 = (o + 4) % 4 := by omega
      refine ⟨by omega, ?_, ?_⟩
      · rw [e]; unfold upd; rw [if_pos rfl]
      · rw [e]; unfold updC; rw [if_pos rfl]; exact hm.congr (hw _) (fun _ _ => rfl)
  · have ec : cn1 c = c + 1 := by unfold cn1; rw [if_pos (by omega)]
    rw [ec]
    refine ⟨o, upd S ((o + c) % 4) (nI n), updC C ((o + c) % 4) (va_cpy m (C ((o + c) % 4)) 0 0 49), ?_, ?_, ?_⟩
    · unfold f_X3_record
      rw [placeOf_n ho (by omega)]
      simp only [e9]
      have e : (o + c) % 4 = 0 ∨ (o + c) % 4 = 1 ∨ (o + c) % 4 = 2 ∨ (o + c) % 4 = 3 := by omega
      rcases e with e | e | e | e <;> rw [e] <;> simp (disch := omega) only [lit32, bs, pl_e, gd_okI, nI_leI, nI_ltI, nI_eq, nI_add, pk_mul, pk_sub, nI_m1', nI_clamp, if_pos, if_neg, ↓reduceIte, upd, updC] <;> rfl
    · refine ⟨ho, by omega, fun i hi4 => ?_⟩
      by_cases e3 : i = c
      · subst e3
        refine ⟨n, row, ?_, ?_⟩
        · unfold upd; rw [if_pos rfl]
        · unfold updC; rw [if_pos rfl]; exact hm.congr (hw _) (fun _ _ => rfl)
      · have en : (o + i) % 4 ≠ (o + c) % 4 := by omega
        obtain ⟨n', z', g1, g2⟩ := hi i (by omega)
        refine ⟨n', z', ?_, ?_⟩
        · unfold upd; rw [if_neg en]; exact g1
        · unfold updC; rw [if_neg en]; exact g2
    · refine ⟨by omega, ?_, ?_⟩
      · rw [Nat.add_sub_cancel]; unfold upd; rw [if_pos rfl]
      · rw [Nat.add_sub_cancel]; unfold updC; rw [if_pos rfl]; exact hm.congr (hw _) (fun _ _ => rfl)
theorem chg_c {n o c : Nat} {S : Nat → Int32} {C : Nat → Nat → Int32} {m z : Nat → Int32} (hM : Mx n m z) (hH : Hs o c S C) (n2 : Nat) (nc : Nat → Int32) :
    ∃ o' S' C' m', f_X9_changeToNext (nI n) m (nI n2) nc (nI o) (nI c) (S 0) (C 0) (S 1) (C 1) (S 2) (C 2) (S 3) (C 3) = some (nI n2, m', nI o', nI (cn1 c), S' 0, C' 0, S' 1, C' 1, S' 2, C' 2, S' 3, C' 3) ∧ Hs o' (cn1 c) S' C' ∧ Tp o' (cn1 c) S' C' n z ∧ ∀ k, k < 49 → m' k = nc k := by
  obtain ⟨o', S', C', h1, h2, h3⟩ := record_c hH hM
  refine ⟨o', S', C', va_cpy nc m 0 0 49, ?_, h2, h3, fun k hk => cpy49 _ _ hk⟩
  unfold f_X9_changeToNext
  rw [h1, bs]
  simp only [copy_e, bs]
/-- how many entries are unlike -/
def du (z2 z : Nat → Int32) : Nat := cntB (dn z2 z) 49
theorem unl_c {n o c : Nat} {S : Nat → Int32} {C : Nat → Nat → Int32} {m z nc z2 : Nat → Int32} (hM : Mx n m z) (hM2 : Mx n nc z2) (hH : Hs o c S C) :
    (du z2 z = 0 ∧ f_X9_changeIfUnlike (nI n) m (nI n) nc (nI o) (nI c) (S 0) (C 0) (S 1) (C 1) (S 2) (C 2) (S 3) (C 3) = some (-2000000005, nI n, m, nI o, nI c, S 0, C 0, S 1, C 1, S 2, C 2, S 3, C 3)) ∨ (du z2 z ≠ 0 ∧ ∃ o' S' C' m', f_X9_changeIfUnlike (nI n) m (nI n) nc (nI o) (nI c) (S 0) (C 0) (S 1) (C 1) (S 2) (C 2) (S 3) (C 3) = some (nI (du z2 z), nI n, m', nI o', nI (cn1 c), S' 0, C' 0, S' 1, C' 1, S' 2, C' 2, S' 3, C' 3) ∧ Hs o' (cn1 c) S' C' ∧ Tp o' (cn1 c) S' C' n z ∧ Mx n m' z2) := by
  obtain ⟨h1, h7, hcz, hz, h0, hb⟩ := id hM
  obtain ⟨-, -, hcz2, hz2, h02, hb2⟩ := id hM2
  unfold f_X9_changeIfUnlike
  have hu : cntP (dn nc m) n n = du z2 z := by
    rw [cntP_all h7 (fun r q hr hq hx => by
      unfold dn
      rw [hcz2 _ (by omega), h02 r q hr hq hx, hcz _ (by omega), h0 r q hr hq hx]
      rfl)]
    exact cntB_congr (fun k hk => by unfold dn; rw [hcz2 k hk, hcz k hk])
  rw [countUnlike_n h7, hu]
  have hle : du z2 z ≤ 49 := cntB_le (dn z2 z) 49
  by_cases e : du z2 z = 0
  · rw [e]
    exact Or.inl ⟨rfl, rfl⟩
  · obtain ⟨o', S', C', m', g1, g2, g3, g5⟩ := chg_c hM hH n nc
    have hne : ¬ nI (du z2 z) = 0 := nI_ne0 (by omega) (by omega)
    simp only [bs]
    rw [if_neg hne, g1]
    exact Or.inr ⟨e, o', S', C', m', rfl, g2, g3, h1, h7, fun k hk => by rw [g5 k hk, hcz2 k hk], hz2, h02, hb2⟩
def mkz (n : Nat) (f : Nat → Nat → Int32) : Nat → Int32 := fun k => if k < 49 then f (k / 7) (k % 7) else nI n
theorem mkz_at {n : Nat} {f : Nat → Nat → Int32} {r q : Nat} (hr : r < 7) (hq : q < 7) : mkz n f (7 * r + q) = f r q := by
  unfold mkz
  rw [if_pos (by omega), show (7 * r + q) / 7 = r by omega, show (7 * r + q) % 7 = q by omega]
theorem mkz_49 {n : Nat} {f : Nat → Nat → Int32} : mkz n f 49 = nI n := by
  unfold mkz
  rw [if_neg (by omega)]
theorem set_c {n o c i j : Nat} {S : Nat → Int32} {C : Nat → Nat → Int32} {m z : Nat → Int32} (hM : Mx n m z) (hH : Hs o c S C) (hi : i < n) (hj : j < n) (ns : Int32) (nc : Nat → Int32) {e : Int32} (he : -20 ≤ e.toInt ∧ e.toInt ≤ 20) :
    (z (7 * i + j) = e ∧ f_X9_set (nI n) m ns nc (nI o) (nI c) (S 0) (C 0) (S 1) (C 1) (S 2) (C 2) (S 3) (C 3) (nI i) (nI j) e = some (-2000000005, nI n, m, ns, nc, nI o, nI c, S 0, C 0, S 1, C 1, S 2, C 2, S 3, C 3)) ∨ (z (7 * i + j) ≠ e ∧ ∃ nc' o' S' C' m', f_X9_set (nI n) m ns nc (nI o) (nI c) (S 0) (C 0) (S 1) (C 1) (S 2) (C 2) (S 3) (C 3) (nI i) (nI j) e = some (z (7 * i + j), nI n, m', nI n, nc', nI o', nI (cn1 c), S' 0, C' 0, S' 1, C' 1, S' 2, C' 2, S' 3, C' 3) ∧ Hs o' (cn1 c) S' C' ∧ Tp o' (cn1 c) S' C' n z ∧ Mx n m' (upd z (7 * i + j) e)) := by
  obtain ⟨h1, h7, hcz, hz, h0, hb⟩ := id hM
  have e1 : ¬ e < (-20 : Int32) := by
    rw [Int32.lt_iff_toInt_lt, show (-20 : Int32).toInt = -20 by decide]; omega
  have e2 : e ≤ (20 : Int32) := by
    rw [Int32.le_iff_toInt_le, show (20 : Int32).toInt = 20 by decide]; omega
  have hE : f_X9_isEntry e = some 1 := by
    unfold f_X9_isEntry
    rw [if_neg e1, if_neg (Int32_not_lt_of_le e2)]
  unfold f_X9_set
  rw [has_n hi h7, has_n hj h7, hE, at_n hi hj h7]
  simp only [bs, i10, ↓reduceIte]
  rw [hcz _ (show 7 * i + j < 49 by omega)]
  by_cases e3 : z (7 * i + j) = e
  · rw [if_pos e3]
    exact Or.inl ⟨e3, rfl⟩
  · rw [if_neg e3]
    simp only [copy_e, bs, put_n hi hj h7]
    obtain ⟨o', S', C', m', g1, g2, g3, g5⟩ := chg_c hM hH n (upd (va_cpy m nc 0 0 49) (7 * i + j) e)
    rw [g1]
    have hM2 := Mx_upd (nc := va_cpy m nc 0 0 49) hM hi hj (fun k hk => cpy49 _ _ hk) he
    exact Or.inr ⟨e3, _, o', S', C', m', rfl, g2, g3, hM2.congr g5 (fun _ _ => rfl)⟩
theorem set_u {n : Nat} {m : Nat → Int32} (hn : n ≤ 7) {x y : Int32} (h : (∀ k, k < n → x ≠ nI k) ∨ (∃ k, k < n ∧ x = nI k) ∧ (∀ k, k < n → y ≠ nI k)) (ns : Int32) (nc : Nat → Int32) (ho hc s0 s1 s2 s3 : Int32) (c0 c1 c2 c3 : Nat → Int32) (e : Int32) : f_X9_set (nI n) m ns nc ho hc s0 c0 s1 c1 s2 c2 s3 c3 x y e = some (-2000000001, nI n, m, ns, nc, ho, hc, s0, c0, s1, c1, s2, c2, s3, c3) := by
  unfold f_X9_set
  rcases h with h | ⟨⟨k, hk, rfl⟩, h⟩
  · rw [has_no h hn]
    rfl
  · rw [has_n hk hn, has_no h hn]
    rfl
theorem set_o {n i j : Nat} {m : Nat → Int32} (hn : n ≤ 7) (hi : i < n) (hj : j < n) (ns : Int32) (nc : Nat → Int32) (ho hc s0 s1 s2 s3 : Int32) (c0 c1 c2 c3 : Nat → Int32) {e : Int32} (he : e < (-20 : Int32) ∨ (20 : Int32) < e) : f_X9_set (nI n) m ns nc ho hc s0 c0 s1 c1 s2 c2 s3 c3 (nI i) (nI j) e = some (-2000000002, nI n, m, ns, nc, ho, hc, s0, c0, s1, c1, s2, c2, s3, c3) := by
  have hE : f_X9_isEntry e = some 0 := by
    unfold f_X9_isEntry
    by_cases e1 : e < (-20 : Int32)
    · rw [if_pos e1]
      try rfl
    · rw [if_neg e1, if_pos (he.resolve_left e1)]
  unfold f_X9_set
  rw [has_n hi hn, has_n hj hn, hE]
  rfl
theorem swapRows_c {n o c i j : Nat} {S : Nat → Int32} {C : Nat → Nat → Int32} {m z : Nat → Int32} (hM : Mx n m z) (hH : Hs o c S C) (hi : i < n) (hj : j < n) (ns : Int32) (nc : Nat → Int32) :
    (du (mkz n (fun r q => z (7 * sw i j r + q))) z = 0 ∧ ∃ nc', f_X9_swapRows (nI n) m ns nc (nI o) (nI c) (S 0) (C 0) (S 1) (C 1) (S 2) (C 2) (S 3) (C 3) (nI i) (nI j) = some (-2000000005, nI n, m, nI n, nc', nI o, nI c, S 0, C 0, S 1, C 1, S 2, C 2, S 3, C 3)) ∨ (du (mkz n (fun r q => z (7 * sw i j r + q))) z ≠ 0 ∧ ∃ nc' o' S' C' m', f_X9_swapRows (nI n) m ns nc (nI o) (nI c) (S 0) (C 0) (S 1) (C 1) (S 2) (C 2) (S 3) (C 3) (nI i) (nI j) = some (nI (du (mkz n (fun r q => z (7 * sw i j r + q))) z), nI n, m', nI n, nc', nI o', nI (cn1 c), S' 0, C' 0, S' 1, C' 1, S' 2, C' 2, S' 3, C' 3) ∧ Hs o' (cn1 c) S' C' ∧ Tp o' (cn1 c) S' C' n z ∧ Mx n m' (mkz n (fun r q => z (7 * sw i j r + q)))) := by
  obtain ⟨h1, h7, hcz, hz, h0, hb⟩ := id hM
  unfold f_X9_swapRows
  rw [has_n hi h7, has_n hj h7]
  simp only [bs, i10, ↓reduceIte, copy_e]
  obtain ⟨w, hw1, hw2⟩ := lp_cntE (body := f_X9_swapRows_L1 (nI i) (nI j) (nI n) m (nI n)) (fun k w => ∀ r q, r < 7 → q < 7 → w (7 * r + q) = if q < k then m (7 * sw i j r + q) else m (7 * r + q)) n (fun w => ∀ r q, r < 7 → q < 7 → w (7 * r + q) = if q < n then m (7 * sw i j r + q) else m (7 * r + q)) (fun k w hk hI => by
    rw [f_X9_swapRows_L1, f_X4_size, bs, if_neg (nI_ge hk (by omega))]
    rw [at_n hj hk h7, bs, put_n hi hk h7, bs, at_n hi hk h7, bs, put_n hj hk h7, bs, pl_e]
    refine ⟨_, by rw [show nI k + (1 : Int32) = nI (k + 1) from nI_1 k], fun r q hr hq => ?_⟩
    rw [upd_at, upd_at, hI r q hr hq]
    unfold sw
    by_cases e1 : r = j
    · subst e1
      by_cases e2 : q = k
      · subst e2
        rw [if_pos rfl]
        by_cases e3 : r = i
        · subst e3; simp
        · simp [e3]
      · rw [if_neg (by omega), if_neg (by omega)]
        by_cases e4 : q < k
        · simp [e4, show q < k + 1 by omega]
        · simp [e4, show ¬ q < k + 1 by omega]
    · rw [if_neg (by omega)]
      by_cases e2 : r = i
      · subst e2
        by_cases e3 : q = k
        · subst e3
          simp
        · rw [if_neg (by omega)]
          by_cases e4 : q < k
          · simp [e4, show q < k + 1 by omega]
          · simp [e4, show ¬ q < k + 1 by omega]
      · rw [if_neg (by omega)]
        by_cases e3 : q = k
        · subst e3
          simp [e1, e2]
        · by_cases e4 : q < k
          · simp [e4, show q < k + 1 by omega]
          · simp [e4, show ¬ q < k + 1 by omega]) (fun w hI => by
    rw [f_X9_swapRows_L1, f_X4_size, bs, if_pos (nI_le (Nat.le_refl _) (by omega))]
    exact ⟨w, rfl, hI⟩) (va_cpy m nc 0 0 49) (fun r q hr hq => by rw [if_neg (Nat.not_lt_zero _), cpy49 _ _ (by omega)]) (by omega)
  have hw1' : lpN (f_X9_swapRows_L1 (nI i) (nI j) (nI n) m (nI n)) FU ((0 : Int32), va_cpy m nc 0 0 49) = some w := hw1
  rw [hw1']
  simp only [bs]
  have hsw : ∀ r, r < 7 → sw i j r < 7 ∧ (n ≤ r → n ≤ sw i j r) := fun r hr => by
    unfold sw
    split
    · omega
    · split <;> omega
  have hM2 : Mx n w (mkz n (fun r q => z (7 * sw i j r + q))) := Mx_perm hM (fun r _ => sw i j r) (fun _ q => q) (fun r q hr hq => by
    have := hsw r (by omega)
    refine ⟨by omega, by omega, by omega⟩) (fun r q hr hq => by
    rw [hw2 r q hr hq]
    split
    · exact hcz _ (by have := hsw r (by omega); omega)
    · rename_i hge
      rw [hcz _ (by omega)]
      have := hsw r (by omega)
      rw [h0 r q hr hq (by omega)]
      exact (h0 _ _ (by omega) (by omega) (by omega)).symm) (fun r q hr hq => mkz_at hr hq) mkz_49
  rcases unl_c hM hM2 hH with ⟨d, g1⟩ | ⟨d, o', S', C', m', g1, g2, g3, g4⟩
  · rw [g1]
    exact Or.inl ⟨d, w, rfl⟩
  · rw [g1]
    exact Or.inr ⟨d, w, o', S', C', m', rfl, g2, g3, g4⟩
theorem swapRows_u {n : Nat} {m : Nat → Int32} (hn : n ≤ 7) {x y : Int32} (h : (∀ k, k < n → x ≠ nI k) ∨ (∃ k, k < n ∧ x = nI k) ∧ (∀ k, k < n → y ≠ nI k)) (ns : Int32) (nc : Nat → Int32) (ho hc s0 s1 s2 s3 : Int32) (c0 c1 c2 c3 : Nat → Int32) : f_X9_swapRows (nI n) m ns nc ho hc s0 c0 s1 c1 s2 c2 s3 c3 x y = some (-2000000001, nI n, m, ns, nc, ho, hc, s0, c0, s1, c1, s2, c2, s3, c3) := by
  unfold f_X9_swapRows
  rcases h with h | ⟨⟨k, hk, rfl⟩, h⟩
  · rw [has_no h hn]
    rfl
  · rw [has_n hk hn, has_no h hn]
    rfl
theorem swapColumns_c {n o c i j : Nat} {S : Nat → Int32} {C : Nat → Nat → Int32} {m z : Nat → Int32} (hM : Mx n m z) (hH : Hs o c S C) (hi : i < n) (hj : j < n) (ns : Int32) (nc : Nat → Int32) :
    (du (mkz n (fun r q => z (7 * r + sw i j q))) z = 0 ∧ ∃ nc', f_X9_swapColumns (nI n) m ns nc (nI o) (nI c) (S 0) (C 0) (S 1) (C 1) (S 2) (C 2) (S 3) (C 3) (nI i) (nI j) = some (-2000000005, nI n, m, nI n, nc', nI o, nI c, S 0, C 0, S 1, C 1, S 2, C 2, S 3, C 3)) ∨ (du (mkz n (fun r q => z (7 * r + sw i j q))) z ≠ 0 ∧ ∃ nc' o' S' C' m', f_X9_swapColumns (nI n) m ns nc (nI o) (nI c) (S 0) (C 0) (S 1) (C 1) (S 2) (C 2) (S 3) (C 3) (nI i) (nI j) = some (nI (du (mkz n (fun r q => z (7 * r + sw i j q))) z), nI n, m', nI n, nc', nI o', nI (cn1 c), S' 0, C' 0, S' 1, C' 1, S' 2, C' 2, S' 3, C' 3) ∧ Hs o' (cn1 c) S' C' ∧ Tp o' (cn1 c) S' C' n z ∧ Mx n m' (mkz n (fun r q => z (7 * r + sw i j q)))) := by
  obtain ⟨h1, h7, hcz, hz, h0, hb⟩ := id hM
  unfold f_X9_swapColumns
  rw [has_n hi h7, has_n hj h7]
  simp only [bs, i10, ↓reduceIte, copy_e]
  obtain ⟨w, hw1, hw2⟩ := lp_cntE (body := f_X9_swapColumns_L1 (nI i) (nI j) (nI n) m (nI n)) (fun k w => ∀ r q, r < 7 → q < 7 → w (7 * r + q) = if r < k then m (7 * r + sw i j q) else m (7 * r + q)) n (fun w => ∀ r q, r < 7 → q < 7 → w (7 * r + q) = if r < n then m (7 * r + sw i j q) else m (7 * r + q)) (fun k w hk hI => by
    rw [f_X9_swapColumns_L1, f_X4_size, bs, if_neg (nI_ge hk (by omega))]
    rw [at_n hk hj h7, bs, put_n hk hi h7, bs, at_n hk hi h7, bs, put_n hk hj h7, bs, pl_e]
    refine ⟨_, by rw [show nI k + (1 : Int32) = nI (k + 1) from nI_1 k], fun r q hr hq => ?_⟩
    rw [upd_at, upd_at, hI r q hr hq]
    unfold sw
    by_cases e1 : q = j
    · subst e1
      by_cases e2 : r = k
      · subst e2
        rw [if_pos rfl]
        by_cases e3 : q = i
        · subst e3; simp
        · simp [e3]
      · rw [if_neg (by omega), if_neg (by omega)]
        by_cases e4 : r < k
        · simp [e4, show r < k + 1 by omega]
        · simp [e4, show ¬ r < k + 1 by omega]
    · rw [if_neg (by omega)]
      by_cases e2 : q = i
      · subst e2
        by_cases e3 : r = k
        · subst e3
          simp
        · rw [if_neg (by omega)]
          by_cases e4 : r < k
          · simp [e4, show r < k + 1 by omega]
          · simp [e4, show ¬ r < k + 1 by omega]
      · rw [if_neg (by omega)]
        by_cases e3 : r = k
        · subst e3
          simp [e1, e2]
        · by_cases e4 : r < k
          · simp [e4, show r < k + 1 by omega]
          · simp [e4, show ¬ r < k + 1 by omega]) (fun w hI => by
    rw [f_X9_swapColumns_L1, f_X4_size, bs, if_pos (nI_le (Nat.le_refl _) (by omega))]
    exact ⟨w, rfl, hI⟩) (va_cpy m nc 0 0 49) (fun r q hr hq => by rw [if_neg (Nat.not_lt_zero _), cpy49 _ _ (by omega)]) (by omega)
  have hw1' : lpN (f_X9_swapColumns_L1 (nI i) (nI j) (nI n) m (nI n)) FU ((0 : Int32), va_cpy m nc 0 0 49) = some w := hw1
  rw [hw1']
  simp only [bs]
  have hsw : ∀ r, r < 7 → sw i j r < 7 ∧ (n ≤ r → n ≤ sw i j r) := fun r hr => by
    unfold sw
    split
    · omega
    · split <;> omega
  have hM2 : Mx n w (mkz n (fun r q => z (7 * r + sw i j q))) := Mx_perm hM (fun r _ => r) (fun _ q => sw i j q) (fun r q hr hq => by
    have := hsw q (by omega)
    refine ⟨by omega, by omega, by omega⟩) (fun r q hr hq => by
    rw [hw2 r q hr hq]
    split
    · exact hcz _ (by have := hsw q (by omega); omega)
    · rename_i hge
      rw [hcz _ (by omega)]
      have := hsw q (by omega)
      rw [h0 r q hr hq (by omega)]
      exact (h0 _ _ (by omega) (by omega) (by omega)).symm) (fun r q hr hq => mkz_at hr hq) mkz_49
  rcases unl_c hM hM2 hH with ⟨d, g1⟩ | ⟨d, o', S', C', m', g1, g2, g3, g4⟩
  · rw [g1]
    exact Or.inl ⟨d, w, rfl⟩
  · rw [g1]
    exact Or.inr ⟨d, w, o', S', C', m', rfl, g2, g3, g4⟩
theorem swapColumns_u {n : Nat} {m : Nat → Int32} (hn : n ≤ 7) {x y : Int32} (h : (∀ k, k < n → x ≠ nI k) ∨ (∃ k, k < n ∧ x = nI k) ∧ (∀ k, k < n → y ≠ nI k)) (ns : Int32) (nc : Nat → Int32) (ho hc s0 s1 s2 s3 : Int32) (c0 c1 c2 c3 : Nat → Int32) : f_X9_swapColumns (nI n) m ns nc ho hc s0 c0 s1 c1 s2 c2 s3 c3 x y = some (-2000000001, nI n, m, ns, nc, ho, hc, s0, c0, s1, c1, s2, c2, s3, c3) := by
  unfold f_X9_swapColumns
  rcases h with h | ⟨⟨k, hk, rfl⟩, h⟩
  · rw [has_no h hn]
    rfl
  · rw [has_n hk hn, has_no h hn]
    rfl
theorem transpose_c {n o c : Nat} {S : Nat → Int32} {C : Nat → Nat → Int32} {m z : Nat → Int32} (hM : Mx n m z) (hH : Hs o c S C) (ns : Int32) (nc : Nat → Int32) :
    (du (mkz n (fun r q => z (7 * q + r))) z = 0 ∧ ∃ nc', f_X9_transpose (nI n) m ns nc (nI o) (nI c) (S 0) (C 0) (S 1) (C 1) (S 2) (C 2) (S 3) (C 3) = some (-2000000005, nI n, m, nI n, nc', nI o, nI c, S 0, C 0, S 1, C 1, S 2, C 2, S 3, C 3)) ∨ (du (mkz n (fun r q => z (7 * q + r))) z ≠ 0 ∧ ∃ nc' o' S' C' m', f_X9_transpose (nI n) m ns nc (nI o) (nI c) (S 0) (C 0) (S 1) (C 1) (S 2) (C 2) (S 3) (C 3) = some (nI (du (mkz n (fun r q => z (7 * q + r))) z), nI n, m', nI n, nc', nI o', nI (cn1 c), S' 0, C' 0, S' 1, C' 1, S' 2, C' 2, S' 3, C' 3) ∧ Hs o' (cn1 c) S' C' ∧ Tp o' (cn1 c) S' C' n z ∧ Mx n m' (mkz n (fun r q => z (7 * q + r)))) := by
  obtain ⟨h1, h7, hcz, hz, h0, hb⟩ := id hM
  have hm0 : ∀ r q, r < 7 → q < 7 → (n ≤ r ∨ n ≤ q) → m (7 * r + q) = 0 := fun r q hr hq hx => by rw [hcz _ (by omega), h0 r q hr hq hx]
  unfold f_X9_transpose
  simp only [copy_e, bs]
  obtain ⟨w, hw1, hw2⟩ := lp_cntE (body := f_X9_transpose_L1 (nI n) m (nI n)) (fun k w => ∀ r q, r < 7 → q < 7 → w (7 * r + q) = if r < k then m (7 * q + r) else m (7 * r + q)) n (fun w => ∀ r q, r < 7 → q < 7 → w (7 * r + q) = m (7 * q + r)) (fun k w hk hI => by
    rw [f_X9_transpose_L1, f_X4_size, bs, if_neg (nI_ge hk (by omega))]
    obtain ⟨w', hw1, hw2⟩ := lp_cntE (body := f_X9_transpose_L2 (nI k) (nI n) m (nI n)) (fun l w => ∀ r q, r < 7 → q < 7 → w (7 * r + q) = if r < k ∨ (r = k ∧ q < l) then m (7 * q + r) else m (7 * r + q)) n (fun w => ∀ r q, r < 7 → q < 7 → w (7 * r + q) = if r < k + 1 then m (7 * q + r) else m (7 * r + q)) (fun l w hl hI => by
      rw [f_X9_transpose_L2, f_X4_size, bs, if_neg (nI_ge hl (by omega))]
      rw [at_n hl hk h7, bs, put_n hk hl h7, bs, pl_e]
      refine ⟨_, by rw [show nI l + (1 : Int32) = nI (l + 1) from nI_1 l], fun r q hr hq => ?_⟩
      rw [upd_at, hI r q hr hq]
      by_cases e : r = k ∧ q = l
      · obtain ⟨rfl, rfl⟩ := e
        rw [if_pos rfl, if_pos (Or.inr ⟨rfl, by omega⟩)]
      · rw [if_neg (by omega)]
        by_cases e2 : r < k ∨ (r = k ∧ q < l)
        · rw [if_pos e2, if_pos (by omega)]
        · rw [if_neg e2, if_neg (by omega)]) (fun w hI => by
      rw [f_X9_transpose_L2, f_X4_size, bs, if_pos (nI_le (Nat.le_refl _) (by omega))]
      refine ⟨w, rfl, fun r q hr hq => ?_⟩
      rw [hI r q hr hq]
      by_cases e : r < k ∨ (r = k ∧ q < n)
      · rw [if_pos e, if_pos (by omega)]
      · rw [if_neg e]
        by_cases e2 : r < k + 1
        · rw [if_pos e2, hm0 r q hr hq (by omega), hm0 q r hq hr (by omega)]
        · rw [if_neg e2]) w (fun r q hr hq => by
      rw [hI r q hr hq]
      by_cases e : r < k
      · rw [if_pos e, if_pos (Or.inl e)]
      · rw [if_neg e, if_neg (by omega)]) (by omega)
    have hw1' : lpN (f_X9_transpose_L2 (nI k) (nI n) m (nI n)) FU ((0 : Int32), w) = some w' := hw1
    rw [hw1', bs, pl_e]
    exact ⟨w', by rw [show nI k + (1 : Int32) = nI (k + 1) from nI_1 k], hw2⟩) (fun w hI => by
    rw [f_X9_transpose_L1, f_X4_size, bs, if_pos (nI_le (Nat.le_refl _) (by omega))]
    refine ⟨w, rfl, fun r q hr hq => ?_⟩
    rw [hI r q hr hq]
    by_cases e : r < n
    · rw [if_pos e]
    · rw [if_neg e, hm0 r q hr hq (by omega), hm0 q r hq hr (by omega)]) (va_cpy m nc 0 0 49) (fun r q hr hq => by rw [if_neg (Nat.not_lt_zero _), cpy49 _ _ (by omega)]) (by omega)
  have hw1' : lpN (f_X9_transpose_L1 (nI n) m (nI n)) FU ((0 : Int32), va_cpy m nc 0 0 49) = some w := hw1
  rw [hw1']
  simp only [bs]
  have hM2 : Mx n w (mkz n (fun r q => z (7 * q + r))) := Mx_perm hM (fun _ q => q) (fun r _ => r) (fun r q hr hq => ⟨hq, hr, fun h => h.symm⟩) (fun r q hr hq => by rw [hw2 r q hr hq, hcz _ (by omega)]) (fun r q hr hq => mkz_at hr hq) mkz_49
  rcases unl_c hM hM2 hH with ⟨d, g1⟩ | ⟨d, o', S', C', m', g1, g2, g3, g4⟩
  · rw [g1]
    exact Or.inl ⟨d, w, rfl⟩
  · rw [g1]
    exact Or.inr ⟨d, w, o', S', C', m', rfl, g2, g3, g4⟩
/-- a product that is no entry -/
def bad (x f : Int32) : Prop := x * f < (-20 : Int32) ∨ (20 : Int32) < x * f
theorem isE_bad {x f : Int32} : (bad x f ∧ f_X9_isEntry (x * f) = some 0) ∨ (¬ bad x f ∧ f_X9_isEntry (x * f) = some 1) := by
  unfold f_X9_isEntry bad
  by_cases e1 : x * f < (-20 : Int32)
  · rw [if_pos e1]
    exact Or.inl ⟨Or.inl e1, rfl⟩
  · rw [if_neg e1]
    by_cases e2 : (20 : Int32) < x * f
    · rw [if_pos e2]
      exact Or.inl ⟨Or.inr e2, rfl⟩
    · rw [if_neg e2]
      exact Or.inr ⟨fun h => h.elim e1 e2, rfl⟩
theorem multiply_u {n : Nat} {m : Nat → Int32} (hn : n ≤ 7) {x : Int32} (h : ∀ k, k < n → x ≠ nI k) (ns : Int32) (nc : Nat → Int32) (ho hc s0 s1 s2 s3 : Int32) (c0 c1 c2 c3 : Nat → Int32) (f : Int32) : f_X9_multiply (nI n) m ns nc ho hc s0 c0 s1 c1 s2 c2 s3 c3 x f = some (-2000000001, nI n, m, ns, nc, ho, hc, s0, c0, s1, c1, s2, c2, s3, c3) := by
  unfold f_X9_multiply
  rw [has_no h hn]
  rfl
theorem multiply_o {n i : Nat} {m : Nat → Int32} (hn : n ≤ 7) (hi : i < n) (ns : Int32) (nc : Nat → Int32) (ho hc s0 s1 s2 s3 : Int32) (c0 c1 c2 c3 : Nat → Int32) {f : Int32} (h : f < (-9 : Int32) ∨ (9 : Int32) < f) : f_X9_multiply (nI n) m ns nc ho hc s0 c0 s1 c1 s2 c2 s3 c3 (nI i) f = some (-2000000002, nI n, m, ns, nc, ho, hc, s0, c0, s1, c1, s2, c2, s3, c3) := by
  unfold f_X9_multiply
  rw [has_n hi hn]
  simp only [bs, i10, ↓reduceIte]
  by_cases e1 : f < (-9 : Int32)
  · rw [if_pos e1]
  · rw [if_neg e1, if_neg (fun hh => Int32_not_lt_of_le hh (h.resolve_left e1))]
theorem multiply_c {n o c i : Nat} {S : Nat → Int32} {C : Nat → Nat → Int32} {m z : Nat → Int32} (hM : Mx n m z) (hH : Hs o c S C) (hi : i < n) (ns : Int32) (nc : Nat → Int32) {f : Int32} (hf1 : ¬ f < (-9 : Int32)) (hf2 : f ≤ (9 : Int32)) :
    ((∃ q, q < n ∧ bad (z (7 * i + q)) f) ∧ ∃ nc', f_X9_multiply (nI n) m ns nc (nI o) (nI c) (S 0) (C 0) (S 1) (C 1) (S 2) (C 2) (S 3) (C 3) (nI i) f = some (-2000000004, nI n, m, nI n, nc', nI o, nI c, S 0, C 0, S 1, C 1, S 2, C 2, S 3, C 3)) ∨ (¬ (∃ q, q < n ∧ bad (z (7 * i + q)) f) ∧ ((du (mkz n (fun r q => if r = i then z (7 * r + q) * f else z (7 * r + q))) z = 0 ∧ ∃ nc', f_X9_multiply (nI n) m ns nc (nI o) (nI c) (S 0) (C 0) (S 1) (C 1) (S 2) (C 2) (S 3) (C 3) (nI i) f = some (-2000000005, nI n, m, nI n, nc', nI o, nI c, S 0, C 0, S 1, C 1, S 2, C 2, S 3, C 3)) ∨ (du (mkz n (fun r q => if r = i then z (7 * r + q) * f else z (7 * r + q))) z ≠ 0 ∧ ∃ nc' o' S' C' m', f_X9_multiply (nI n) m ns nc (nI o) (nI c) (S 0) (C 0) (S 1) (C 1) (S 2) (C 2) (S 3) (C 3) (nI i) f = some (nI (du (mkz n (fun r q => if r = i then z (7 * r + q) * f else z (7 * r + q))) z), nI n, m', nI n, nc', nI o', nI (cn1 c), S' 0, C' 0, S' 1, C' 1, S' 2, C' 2, S' 3, C' 3) ∧ Hs o' (cn1 c) S' C' ∧ Tp o' (cn1 c) S' C' n z ∧ Mx n m' (mkz n (fun r q => if r = i then z (7 * r + q) * f else z (7 * r + q)))))) := by
  obtain ⟨h1, h7, hcz, hz, h0, hb⟩ := id hM
  unfold f_X9_multiply
  rw [has_n hi h7]
  simp only [bs, i10, ↓reduceIte, copy_e]
  rw [if_neg hf1, if_pos hf2]
  by_cases hall : ∃ q, q < n ∧ bad (z (7 * i + q)) f
  · have hL : ∃ y, lpN (f_X9_multiply_L1 (nI i) f (nI n) m (nI n) (nI o) (nI c) (S 0) (C 0) (S 1) (C 1) (S 2) (C 2) (S 3) (C 3)) FU ((0 : Int32), va_cpy m nc 0 0 49) = some y ∧ ∃ w, y = .inr (-2000000004, nI n, m, nI n, w, nI o, nI c, S 0, C 0, S 1, C 1, S 2, C 2, S 3, C 3) := by
      refine lp_inv (body := f_X9_multiply_L1 (nI i) f (nI n) m (nI n) (nI o) (nI c) (S 0) (C 0) (S 1) (C 1) (S 2) (C 2) (S 3) (C 3)) (fun s => ∃ j w, s = (nI j, w) ∧ j ≤ n ∧ ∀ q, q < j → ¬ bad (z (7 * i + q)) f) (fun s => n - s.1.toNatClampNeg) _ ?_ FU _ ⟨0, _, rfl, Nat.zero_le _, fun q hq => absurd hq (Nat.not_lt_zero _)⟩ (FU_lt (by show n - _ < 100000; omega))
      rintro s ⟨j, w, rfl, hj, hI⟩
      rw [f_X9_multiply_L1, f_X4_size, bs]
      by_cases ej : j = n
      · subst ej
        obtain ⟨q, hq, hq2⟩ := hall
        exact absurd hq2 (hI q hq)
      · rw [if_neg (nI_ge (by omega) (by omega)), at_n hi (by omega) h7, bs, pl_e, hcz _ (by omega)]
        rcases isE_bad (x := z (7 * i + j)) (f := f) with ⟨eb, e9⟩ | ⟨eb, e9⟩
        · right
          rw [e9, bs, if_pos rfl]
          exact ⟨_, rfl, w, rfl⟩
        · left
          rw [e9, bs, if_neg i10, put_n hi (by omega) h7, bs, pl_e]
          refine ⟨_, by rw [show nI j + (1 : Int32) = nI (j + 1) from nI_1 j], ⟨j + 1, _, rfl, by omega, fun q hq => ?_⟩, ?_⟩
          · by_cases eq : q = j
            · subst eq; exact eb
            · exact hI q (by omega)
          · show n - (nI (j + 1)).toNatClampNeg < n - (nI j).toNatClampNeg
            rw [nI_clamp (by omega), nI_clamp (by omega)]
            omega
    obtain ⟨y, hy, w, rfl⟩ := hL
    rw [hy, bs]
    exact Or.inl ⟨hall, w, rfl⟩
  · refine Or.inr ⟨hall, ?_⟩
    have hok : ∀ q, q < n → ¬ bad (z (7 * i + q)) f := fun q hq hp => hall ⟨q, hq, hp⟩
    obtain ⟨y, hy, w, rfl, hw2⟩ := lp_cntE (body := f_X9_multiply_L1 (nI i) f (nI n) m (nI n) (nI o) (nI c) (S 0) (C 0) (S 1) (C 1) (S 2) (C 2) (S 3) (C 3)) (fun k w => ∀ r q, r < 7 → q < 7 → w (7 * r + q) = if r = i ∧ q < k then z (7 * r + q) * f else z (7 * r + q)) n (fun y => ∃ w, y = .inl w ∧ ∀ r q, r < 7 → q < 7 → w (7 * r + q) = if r = i ∧ q < n then z (7 * r + q) * f else z (7 * r + q)) (fun k w hk hI => by
      have e9 : f_X9_isEntry (z (7 * i + k) * f) = some 1 := by
        rcases isE_bad (x := z (7 * i + k)) (f := f) with ⟨eb, e9⟩ | ⟨eb, e9⟩
        · exact absurd eb (hok k hk)
        · exact e9
      rw [f_X9_multiply_L1, f_X4_size, bs, if_neg (nI_ge hk (by omega)), at_n hi hk h7, bs, pl_e, hcz _ (by omega), e9, bs, if_neg i10, put_n hi hk h7, bs, pl_e]
      refine ⟨_, by rw [show nI k + (1 : Int32) = nI (k + 1) from nI_1 k], fun r q hr hq => ?_⟩
      rw [upd_at, hI r q hr hq]
      by_cases e : r = i ∧ q = k
      · obtain ⟨rfl, rfl⟩ := e
        rw [if_pos rfl, if_pos ⟨rfl, by omega⟩]
      · rw [if_neg (by omega)]
        by_cases e2 : r = i ∧ q < k
        · rw [if_pos e2, if_pos (by omega)]
        · rw [if_neg e2, if_neg (by omega)]) (fun w hI => by
      rw [f_X9_multiply_L1, f_X4_size, bs, if_pos (nI_le (Nat.le_refl _) (by omega))]
      exact ⟨_, rfl, w, rfl, hI⟩) (va_cpy m nc 0 0 49) (fun r q hr hq => by rw [if_neg (by omega), cpy49 _ _ (by omega), hcz _ (by omega)]) (by omega)
    have hy' : lpN (f_X9_multiply_L1 (nI i) f (nI n) m (nI n) (nI o) (nI c) (S 0) (C 0) (S 1) (C 1) (S 2) (C 2) (S 3) (C 3)) FU ((0 : Int32), va_cpy m nc 0 0 49) = some (.inl w) := hy
    rw [hy', bs]
    have hM2 : Mx n w (mkz n (fun r q => if r = i then z (7 * r + q) * f else z (7 * r + q))) := by
      refine ⟨h1, h7, ix49 (fun r q hr hq => ?_), mkz_49, fun r q hr hq hx => ?_, fun k hk => ?_⟩
      · rw [hw2 r q hr hq, mkz_at hr hq]
        by_cases e : r = i
        · rw [if_pos e]
          by_cases e2 : q < n
          · rw [if_pos ⟨e, e2⟩]
          · rw [if_neg (by omega), h0 r q hr hq (by omega), Int32.zero_mul]
        · rw [if_neg e, if_neg (by omega)]
      · rw [mkz_at hr hq, h0 r q hr hq hx, Int32.zero_mul]
        split <;> rfl
      · rw [show k = 7 * (k / 7) + k % 7 by omega, mkz_at (by omega) (Nat.mod_lt _ (by omega)), show 7 * (k / 7) + k % 7 = k by omega]
        by_cases e : k / 7 = i
        · rw [if_pos e]
          by_cases hq : k % 7 < n
          · have hk2 := hok (k % 7) hq
            rw [← e, show 7 * (k / 7) + k % 7 = k by omega] at hk2
            exact in20 (fun h => hk2 (Or.inl h)) (fun h => hk2 (Or.inr h))
          · have := h0 (k / 7) (k % 7) (by omega) (Nat.mod_lt _ (by omega)) (by omega)
            rw [show 7 * (k / 7) + k % 7 = k by omega] at this
            rw [this, Int32.zero_mul]
            decide
        · rw [if_neg e]
          exact hb k hk
    rcases unl_c hM hM2 hH with ⟨d, g1⟩ | ⟨d, o', S', C', m', g1, g2, g3, g4⟩
    · dsimp only
      rw [g1]
      exact Or.inl ⟨d, w, rfl⟩
    · dsimp only
      rw [g1]
      exact Or.inr ⟨d, w, o', S', C', m', rfl, g2, g3, g4⟩
theorem add_u {n : Nat} {m : Nat → Int32} (h1 : 1 ≤ n) (hn : n ≤ 7) {x : Int32} (h : x < 0 ∨ ∃ a, a < 2 ^ 31 ∧ x = nI a ∧ ¬ VD a n) (ns : Int32) (nc : Nat → Int32) (ho hc s0 s1 s2 s3 : Int32) (c0 c1 c2 c3 : Nat → Int32) : f_X9_add (nI n) m ns nc ho hc s0 c0 s1 c1 s2 c2 s3 c3 x = some (-2000000001, nI n, m, ns, nc, ho, hc, s0, c0, s1, c1, s2, c2, s3, c3) := by
  have e1 : f_X4_hasDiagonal (nI n) x = some 0 := by
    rcases h with h | ⟨a, ha, rfl, hv⟩
    · unfold f_X4_hasDiagonal
      rw [if_neg (fun hh => Int32_not_lt_of_le hh h)]
    · rcases hasDiagonal_n ha h1 hn with ⟨hv', -⟩ | ⟨-, e⟩
      · exact absurd hv' hv
      · exact e
  unfold f_X9_add
  rw [e1]
  rfl
theorem add_c {n o c a : Nat} {S : Nat → Int32} {C : Nat → Nat → Int32} {m z : Nat → Int32} (hM : Mx n m z) (hH : Hs o c S C) (ha : a < 2 ^ 31) (hv : VD a n) (ns : Int32) (nc : Nat → Int32) :
    ((∃ k, k < n ∧ z (7 * k + dg a (n - 1 - k)) = (20 : Int32)) ∧ f_X9_add (nI n) m ns nc (nI o) (nI c) (S 0) (C 0) (S 1) (C 1) (S 2) (C 2) (S 3) (C 3) (nI a) = some (-2000000004, nI n, m, ns, nc, nI o, nI c, S 0, C 0, S 1, C 1, S 2, C 2, S 3, C 3)) ∨ ((∀ k, k < n → z (7 * k + dg a (n - 1 - k)) < (20 : Int32)) ∧ ∃ nc' o' S' C' m', f_X9_add (nI n) m ns nc (nI o) (nI c) (S 0) (C 0) (S 1) (C 1) (S 2) (C 2) (S 3) (C 3) (nI a) = some (sI (fun k => z (7 * k + dg a (n - 1 - k)) + 1) n, nI n, m', nI n, nc', nI o', nI (cn1 c), S' 0, C' 0, S' 1, C' 1, S' 2, C' 2, S' 3, C' 3) ∧ Hs o' (cn1 c) S' C' ∧ Tp o' (cn1 c) S' C' n z ∧ Mx n m' (mkz n (fun r q => if r < n ∧ q = dg a (n - 1 - r) then z (7 * r + q) + 1 else z (7 * r + q)))) := by
  obtain ⟨h1, h7, hcz, hz, h0, hb⟩ := id hM
  unfold f_X9_add
  have e1 : f_X4_hasDiagonal (nI n) (nI a) = some 1 := by
    rcases hasDiagonal_n ha h1 h7 with ⟨-, e⟩ | ⟨hv', -⟩
    · exact e
    · exact absurd hv hv'
  rw [e1, greatestOn_n ha h1 h7 hv]
  simp only [bs, i10, ↓reduceIte]
  have hdl : ∀ k, k < n → dg a (n - 1 - k) < n := fun k hk => (hv.1 _ (by omega)).1
  by_cases hall : ∀ k, k < n → z (7 * k + dg a (n - 1 - k)) < (20 : Int32)
  · have hg : gmx (fun i => m (7 * (n - 1 - i) + dg a i)) n < (20 : Int32) := (gmx_lt _ _).mpr (fun i hi => by
      have h9 := hall (n - 1 - i) (by omega)
      rw [show n - 1 - (n - 1 - i) = i by omega] at h9
      have := (hv.1 i hi).1
      rw [hcz _ (by omega)]
      exact h9)
    rw [if_pos hg]
    simp only [copy_e, bs]
    obtain ⟨w, hw1, hw2⟩ := increaseOn_n ha h1 h7 hv (va_cpy m nc 0 0 49) 1
    rw [hw1, bs]
    obtain ⟨o', S', C', m', g1, g2, g3, g5⟩ := chg_c hM hH n w
    rw [g1]
    simp only [bs]
    rw [sumOn_n ha h1 h7 hv, bs]
    have hw3 : ∀ r q, r < 7 → q < 7 → w (7 * r + q) = if r < n ∧ q = dg a (n - 1 - r) then z (7 * r + q) + 1 else z (7 * r + q) := fun r q hr hq => by
      rw [hw2 r q hr hq, cpy49 _ _ (by omega), hcz _ (by omega)]
    have hM2 : Mx n w (mkz n (fun r q => if r < n ∧ q = dg a (n - 1 - r) then z (7 * r + q) + 1 else z (7 * r + q))) := by
      refine ⟨h1, h7, ix49 (fun r q hr hq => by rw [hw3 r q hr hq, mkz_at hr hq]), mkz_49, fun r q hr hq hx => ?_, fun k hk => ?_⟩
      · rw [mkz_at hr hq, if_neg (fun hc => by have := hdl r hc.1; omega), h0 r q hr hq hx]
      · rw [show k = 7 * (k / 7) + k % 7 by omega, mkz_at (by omega) (Nat.mod_lt _ (by omega)), show 7 * (k / 7) + k % 7 = k by omega]
        by_cases ec : k / 7 < n ∧ k % 7 = dg a (n - 1 - k / 7)
        · rw [if_pos ec]
          have h9 := hall (k / 7) ec.1
          rw [← ec.2, show 7 * (k / 7) + k % 7 = k by omega] at h9
          have h10 := hb k hk
          have e20 : (20 : Int32).toInt = 20 := by decide
          rw [Int32.lt_iff_toInt_lt, e20] at h9
          have : (z k + 1).toInt = (z k).toInt + 1 := by
            rw [Int32.toInt_add, show (1 : Int32).toInt = 1 by decide]
            exact Int.bmod_eq_of_le (by omega) (by omega)
          rw [this]
          omega
        · rw [if_neg ec]; exact hb k hk
    have hsum : sI (fun i => m' (7 * (n - 1 - i) + dg a i)) n = sI (fun k => z (7 * k + dg a (n - 1 - k)) + 1) n := by
      rw [← sI_rev n (fun k => z (7 * k + dg a (n - 1 - k)) + 1)]
      refine sI_congr (fun i hi => ?_)
      have hd := (hv.1 i hi).1
      rw [g5 _ (by omega), hw3 _ _ (by omega) (by omega), if_pos ⟨by omega, by rw [show n - 1 - (n - 1 - i) = i by omega]⟩, show n - 1 - (n - 1 - i) = i by omega]
    rw [hsum]
    exact Or.inr ⟨hall, w, o', S', C', m', rfl, g2, g3, hM2.congr g5 (fun _ _ => rfl)⟩
  · have hg : ¬ gmx (fun i => m (7 * (n - 1 - i) + dg a i)) n < (20 : Int32) := fun hg => hall (fun k hk => by
      have h9 := (gmx_lt _ _).mp hg (n - 1 - k) (by omega)
      have := hdl k hk
      rw [show n - 1 - (n - 1 - k) = k by omega, hcz _ (by omega)] at h9
      exact h9)
    rw [if_neg hg]
    have hex : ∃ k, k < n ∧ z (7 * k + dg a (n - 1 - k)) = (20 : Int32) := by
      apply Decidable.byContradiction
      intro hc
      refine hall (fun k hk => ?_)
      have hd := hdl k hk
      have h10 := hb (7 * k + dg a (n - 1 - k)) (by omega)
      have e20 : (20 : Int32).toInt = 20 := by decide
      rw [Int32.lt_iff_toInt_lt, e20]
      have : ¬ (z (7 * k + dg a (n - 1 - k))).toInt = 20 := fun he => hc ⟨k, hk, Int32_eq_of (by rw [he, e20])⟩
      omega
    exact Or.inl ⟨hex, rfl⟩
theorem clear_o {m : Nat → Int32} (n1 : Int32) (ns : Int32) (nc : Nat → Int32) (ho hc s0 s1 s2 s3 : Int32) (c0 c1 c2 c3 : Nat → Int32) {x : Int32} (h : x < 1 ∨ (7 : Int32) < x) : f_X9_clear n1 m ns nc ho hc s0 c0 s1 c1 s2 c2 s3 c3 x = some (-2000000002, n1, m, ns, nc, ho, hc, s0, c0, s1, c1, s2, c2, s3, c3) := by
  unfold f_X9_clear
  by_cases e1 : x < 1
  · rw [if_pos e1]
  · rw [if_neg e1, if_neg (fun hh => Int32_not_lt_of_le hh (h.resolve_left e1))]
theorem clear_c {n o c j : Nat} {S : Nat → Int32} {C : Nat → Nat → Int32} {m z : Nat → Int32} (hM : Mx n m z) (hH : Hs o c S C) (hj1 : 1 ≤ j) (hj7 : j ≤ 7) (ns : Int32) (nc : Nat → Int32) :
    ∃ nc' o' S' C' m', f_X9_clear (nI n) m ns nc (nI o) (nI c) (S 0) (C 0) (S 1) (C 1) (S 2) (C 2) (S 3) (C 3) (nI j) = some (nI n, nI j, m', nI j, nc', nI o', nI (cn1 c), S' 0, C' 0, S' 1, C' 1, S' 2, C' 2, S' 3, C' 3) ∧ Hs o' (cn1 c) S' C' ∧ Tp o' (cn1 c) S' C' n z ∧ Mx j m' (mkz j (fun _ _ => 0)) := by
  obtain ⟨h1, h7, hcz, hz, h0, hb⟩ := id hM
  unfold f_X9_clear
  rw [if_neg (show ¬ nI j < 1 by rw [show (1 : Int32) = nI 1 from rfl, nI_ltI (by omega) (by omega)]; omega), if_pos (show nI j ≤ (7 : Int32) from (nI_leI (by omega) (b := 7) (by omega)).mpr hj7)]
  obtain ⟨w, hw1, hw2⟩ := fill_n hj1 hj7 ns nc
  obtain ⟨o', S', C', m', g1, g2, g3, g5⟩ := chg_c hM hH j w
  simp only [bs, f_X4_size, hw1, g1]
  refine ⟨w, o', S', C', m', rfl, g2, g3, hj1, hj7, ix49 (fun r q hr hq => by rw [g5 _ (by omega), hw2 _ (by omega), mkz_at hr hq]), mkz_49, fun r q hr hq _ => mkz_at hr hq, fun k hk => ?_⟩
  rw [show k = 7 * (k / 7) + k % 7 by omega, mkz_at (by omega) (Nat.mod_lt _ (by omega))]
  decide
theorem undo_0 {n : Nat} {m : Nat → Int32} (ho s0 s1 s2 s3 : Int32) (c0 c1 c2 c3 : Nat → Int32) : f_X9_undo (nI n) m ho (nI 0) s0 c0 s1 c1 s2 c2 s3 c3 = some (-2000000005, nI n, m, nI 0) := rfl
theorem undo_c {n o c n' : Nat} {S : Nat → Int32} {C : Nat → Nat → Int32} {m z' : Nat → Int32} (hH : Hs o c S C) (hT : Tp o c S C n' z') :
    ∃ m', f_X9_undo (nI n) m (nI o) (nI c) (S 0) (C 0) (S 1) (C 1) (S 2) (C 2) (S 3) (C 3) = some (nI (c - 1), nI n', m', nI (c - 1)) ∧ Mx n' m' z' ∧ Hs o (c - 1) S C := by
  obtain ⟨ho, hc, hi⟩ := id hH
  obtain ⟨h0, g1, g2⟩ := hT
  unfold f_X9_undo f_X3_count
  simp only [bs]
  have hne : ¬ nI c = 0 := nI_ne0 (by omega) (by omega)
  have hm1 : nI c - (1 : Int32) = nI (c - 1) := pk_sub (b := 1) (by omega)
  rw [if_neg hne]
  have hdesk : f_X3_takeLatest (nI o) (nI c) (S 0) (C 0) (S 1) (C 1) (S 2) (C 2) (S 3) (C 3) (nI n) m = some (nI (c - 1), nI n', va_cpy (C ((o + (c - 1)) % 4)) m 0 0 49) := by
    unfold f_X3_takeLatest
    rw [if_neg (show ¬ nI c ≤ 0 from nI_nle (by omega) (by omega)), pl_e, hm1, placeOf_n ho (by omega), bs]
    simp only [copy_e, bs]
    have e : (o + (c - 1)) % 4 = 0 ∨ (o + (c - 1)) % 4 = 1 ∨ (o + (c - 1)) % 4 = 2 ∨ (o + (c - 1)) % 4 = 3 := by omega
    rcases e with e | e | e | e <;> rw [e] at g1 ⊢ <;> rw [← g1] <;> simp (disch := omega) only [lit32, bs, pl_e, gd_okI, nI_leI, nI_ltI, nI_eq, nI_add, pk_mul, pk_sub, nI_m1', nI_clamp, if_pos, if_neg, ↓reduceIte]
  rw [hdesk, bs]
  exact ⟨_, rfl, g2.congr (fun k hk => cpy49 _ _ hk) (fun _ _ => rfl), ho, by omega, fun i hi' => hi i (by omega)⟩
theorem keep_c {n : Nat} {m z : Nat → Int32} (hM : Mx n m z) (hk : Int32) (ks : Int32) (kc : Nat → Int32) : ∃ kc', f_X9_keep hk (nI n) m ks kc = some (nI n, 1, nI n, kc') ∧ Mx n kc' z := by
  unfold f_X9_keep
  simp only [copy_e, bs, f_X4_size]
  exact ⟨_, rfl, hM.congr (fun k hk => cpy49 _ _ hk) (fun _ _ => rfl)⟩
theorem restore_0 {m : Nat → Int32} (n1 ns : Int32) (nc : Nat → Int32) (ks : Int32) (kc : Nat → Int32) (ho hc s0 s1 s2 s3 : Int32) (c0 c1 c2 c3 : Nat → Int32) : f_X9_restore 0 n1 m ns nc ks kc ho hc s0 c0 s1 c1 s2 c2 s3 c3 = some (-2000000005, n1, m, ns, nc, ho, hc, s0, c0, s1, c1, s2, c2, s3, c3) := rfl
theorem restore_c {n o c nk : Nat} {S : Nat → Int32} {C : Nat → Nat → Int32} {m z kc zk : Nat → Int32} (hM : Mx n m z) (hH : Hs o c S C) (hK : Mx nk kc zk) (ns : Int32) (nc : Nat → Int32) :
    ∃ nc' o' S' C' m', f_X9_restore 1 (nI n) m ns nc (nI nk) kc (nI o) (nI c) (S 0) (C 0) (S 1) (C 1) (S 2) (C 2) (S 3) (C 3) = some (nI nk, nI nk, m', nI nk, nc', nI o', nI (cn1 c), S' 0, C' 0, S' 1, C' 1, S' 2, C' 2, S' 3, C' 3) ∧ Hs o' (cn1 c) S' C' ∧ Tp o' (cn1 c) S' C' n z ∧ Mx nk m' zk := by
  unfold f_X9_restore
  rw [if_neg i10]
  obtain ⟨o', S', C', m', g1, g2, g3, g5⟩ := chg_c hM hH nk (va_cpy kc nc 0 0 49)
  simp only [copy_e, bs, g1, f_X4_size]
  exact ⟨_, o', S', C', m', rfl, g2, g3, hK.congr (fun k hk => by rw [g5 k hk, cpy49 _ _ hk]) (fun _ _ => rfl)⟩
