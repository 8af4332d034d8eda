/-! MATHEMATICS: doubles that are not negative, in units of 2 ^ -1074 -/
/-- one, in units; and a bound -/
def OO : Nat := 2 ^ 1074
def MX : Nat := 2 ^ 2096
theorem OO_e {n k : Nat} (h : n = 1074 + k) : 2 ^ n = OO * 2 ^ k := by rw [h, Nat.pow_add]; rfl
theorem OO_pos : 0 < OO := Nat.two_pow_pos _
theorem OO_mx {k : Nat} (h : k ≤ 1022) : OO * 2 ^ k ≤ MX := by
  rw [← OO_e (n := 1074 + k) rfl]
  exact Nat.pow_le_pow_right (by omega) (by omega)
def Pd (x : UInt64) (u : Nat) : Prop := ∃ c q, FP.Core.decode FP.Core.b64 x.toNat = .fin false c q ∧ c * 2 ^ (q + 1074).toNat = u
theorem Pd.det {x : UInt64} {u v : Nat} (h : Pd x u) (h2 : Pd x v) : u = v := by
  obtain ⟨c, q, h1, rfl⟩ := h
  obtain ⟨d, r, h3, rfl⟩ := h2
  rw [h1] at h3
  injection h3 with i1 i2 i3
  rw [i2, i3]
set_option maxRecDepth 100000 in
theorem Pd.lt {x : UInt64} {u : Nat} (h : Pd x u) : x.toNat < 2047 * 2 ^ 52 := by
  obtain ⟨c, q, h1, rfl⟩ := h
  obtain ⟨h2, h3⟩ := fp_fits x h1
  obtain ⟨e1, e2, -⟩ := fp_bits false h2
  rw [h3, UInt64.toNat_ofNat_of_lt' (by simpa using e2), e1]
  obtain ⟨f1, f2, f3, f4⟩ := h2
  have hs : false.toNat = 0 := rfl
  rw [hs]
  split <;> omega
theorem Pd.ok {x : UInt64} {u : Nat} (h : Pd x u) : okD x := by
  have := h.lt
  show x &&& 0x7fffffffffffffff ≤ 0x7ff0000000000000
  rw [UInt64.le_iff_toNat_le, UInt64.toNat_and]
  refine Nat.le_trans Nat.and_le_left ?_
  have e : (0x7ff0000000000000 : UInt64).toNat = 2047 * 2 ^ 52 := by decide
  rw [e]
  exact Nat.le_of_lt this
/-- what a double can be, in units -/
def Rep (v : Nat) : Prop := ∃ M t, v = M * 2 ^ t ∧ M < 2 ^ 53 ∧ (t = 0 ∨ 2 ^ 52 ≤ M)
theorem Pd.rep {x : UInt64} {u : Nat} (h : Pd x u) : Rep u := by
  obtain ⟨c, q, h1, rfl⟩ := h
  obtain ⟨f1, f2, f3, f4⟩ := (fp_fits x h1).1
  refine ⟨c, (q + 1074).toNat, rfl, f1, ?_⟩
  rcases f4 with f4 | f4
  · left; omega
  · exact Or.inr f4
theorem Rep.two {v : Nat} (h : Rep v) : Rep (2 * v) := by
  obtain ⟨M, t, rfl, h1, h2⟩ := h
  by_cases hM : 2 ^ 52 ≤ M
  · exact ⟨M, t + 1, by rw [Nat.pow_succ]; ac_rfl, h1, Or.inr hM⟩
  · have : t = 0 := by omega
    subst this
    exact ⟨2 * M, 0, by rw [Nat.mul_assoc], by omega, Or.inl rfl⟩
theorem Rep.up {v : Nat} (h : Rep v) : ∀ i, Rep (v * 2 ^ i) := by
  intro i
  induction i with
  | zero => rw [Nat.pow_zero, Nat.mul_one]; exact h
  | succ i ih => rw [Nat.pow_succ, ← Nat.mul_assoc, Nat.mul_comm _ 2]; exact ih.two
theorem Rep.half {v : Nat} (h : Rep (2 * v)) (hv : 2 ^ 52 ≤ v) : Rep v := by
  obtain ⟨M, t, h0, h1, h2⟩ := h
  cases t with
  | zero => rw [Nat.pow_zero, Nat.mul_one] at h0; omega
  | succ t =>
    rw [Nat.pow_succ, ← Nat.mul_assoc] at h0
    exact ⟨M, t, by omega, h1, by omega⟩
theorem Rep.down {v : Nat} (hv : 2 ^ 52 ≤ v) : ∀ i, Rep (v * 2 ^ i) → Rep v := by
  intro i
  induction i with
  | zero => intro h; rw [Nat.pow_zero, Nat.mul_one] at h; exact h
  | succ i ih =>
    intro h
    rw [Nat.pow_succ, ← Nat.mul_assoc, Nat.mul_comm _ 2] at h
    refine ih (h.half (Nat.le_trans hv (Nat.le_mul_of_pos_right _ (Nat.two_pow_pos i))))
theorem fp_pd {A B X Y α β : Nat} {e : Int} (hB : 0 < B) (hY : 0 < Y) (he : (α : Int) - β = e + 1074) (h : A * Y * 2 ^ α = X * B * 2 ^ β) (hX : X ≤ MX * Y) : ∃ u, Pd (UInt64.ofNat (FP.Core.encode FP.Core.b64 (FP.Core.roundRatio FP.Core.b64 false A B e))) u ∧ (∀ k, X ≤ 2 ^ k * Y → u ≤ 2 ^ k) ∧ ((Y = 1 ∨ 2 ^ 52 * Y ≤ X) → 1023 * X ≤ 1024 * (u * Y) ∧ 1023 * (u * Y) ≤ 1024 * X) ∧ (X = 0 → u = 0) ∧ (∀ v, X = v * Y → Rep v → u = v) := by
  by_cases hA : A = 0
  · subst hA
    have hX0 : X = 0 := by
      rw [Nat.zero_mul, Nat.zero_mul] at h
      rcases Nat.mul_eq_zero.mp h.symm with h | h
      · rcases Nat.mul_eq_zero.mp h with h | h
        · exact h
        · omega
      · have := Nat.two_pow_pos β
        omega
    subst hX0
    refine ⟨0, ⟨0, -1074, ?_, by rw [Nat.zero_mul]⟩, fun k _ => Nat.zero_le _, fun _ => by rw [Nat.zero_mul]; omega, fun _ => rfl, fun v hv _ => by
      rcases Nat.mul_eq_zero.mp hv.symm with h9 | h9
      · exact h9.symm
      · omega⟩
    have hq : FP.Core.b64.qmin = -1074 := by decide
    unfold FP.Core.roundRatio
    rw [if_pos rfl, hq]
    exact fp_of false ⟨by decide, by decide, by decide, Or.inl rfl⟩
  · obtain ⟨m, t, e1, e2⟩ := fp_round false (Nat.pos_of_ne_zero hA) hB hY he h
    obtain ⟨e3, e4⟩ := Rd_le hY e2 hX
    obtain ⟨c, q, e5, e6, e7, -⟩ := fp_settle (s := false) (Rd_m hY e2) (by omega) (Rd_big hY e2)
    refine ⟨m * 2 ^ t, ⟨c, q, ?_, e7⟩, fun k hk => (Rd_le hY e2 hk).1, fun hn => Rd_near hY e2 hn, fun hX0 => ?_, fun v hv hr => ?_⟩
    · rw [e1, e5]
      exact fp_of false e6
    · subst hX0
      have := (Rd_near hY e2 (by
        rcases e2.2.2.1 with h0 | h0
        · exfalso
          have h9 : 0 < A * Y * 2 ^ α := Nat.mul_pos (Nat.mul_pos (Nat.pos_of_ne_zero hA) hY) (Nat.two_pow_pos _)
          rw [h, Nat.zero_mul, Nat.zero_mul] at h9
          omega
        · exfalso
          have h9 : 0 < 2 ^ (52 + t) * Y := Nat.mul_pos (Nat.two_pow_pos _) hY
          omega)).2
      have h8 : m * 2 ^ t * Y = 0 := by omega
      rcases Nat.mul_eq_zero.mp h8 with h9 | h9
      · exact h9
      · omega
    · obtain ⟨M, t0, r1, r2, r3⟩ := hr
      obtain ⟨i1, i2⟩ := Rd_exact hY e2 (by rw [hv, r1]) r2 r3
      rw [i1, i2, r1]
theorem pow_cut {c : Nat} {q e : Int} (h1 : e ≤ q) (h2 : -1074 ≤ e) : c * 2 ^ (q - e).toNat * 2 ^ (e + 1074).toNat = c * 2 ^ (q + 1074).toNat := by
  rw [Nat.mul_assoc, ← Nat.pow_add, show (q - e).toNat + (e + 1074).toNat = (q + 1074).toNat by omega]
/-- a sum -/
theorem dadd_n {x y : UInt64} {a b : Nat} (hx : Pd x a) (hy : Pd y b) (h : a + b ≤ MX) : ∃ u, Pd (FP.dadd x y) u ∧ 1023 * (a + b) ≤ 1024 * u ∧ 1023 * u ≤ 1024 * (a + b) := by
  obtain ⟨c, q, h1, h2⟩ := hx
  obtain ⟨d, r, h3, h4⟩ := hy
  have f1 := (fp_fits x h1).1
  have f2 := (fp_fits y h3).1
  have hq := f1.2.1
  have hr := f2.2.1
  have hs : FP.Core.exactSum (.fin false c q) (.fin false d r) = .fin false (c * 2 ^ (q - min q r).toNat + d * 2 ^ (r - min q r).toNat) (min q r) := by
    have hv : FP.Core.sumUnits false c q false d r (min q r) = ((c * 2 ^ (q - min q r).toNat + d * 2 ^ (r - min q r).toNat : Nat) : Int) := by
      unfold FP.Core.sumUnits FP.Core.signed FP.Core.inUnits
      simp
    have e0 : FP.Core.exactSum (.fin false c q) (.fin false d r) = .fin (FP.Core.sumSign false false (FP.Core.sumUnits false c q false d r (min q r))) (FP.Core.sumUnits false c q false d r (min q r)).natAbs (min q r) := rfl
    have e9 : ∀ n : Nat, FP.Core.sumSign false false (n : Int) = false := by
      intro n
      unfold FP.Core.sumSign
      split
      · rfl
      · exact decide_eq_false (by omega)
    rw [e0, hv, e9, Int.natAbs_natCast]
  have hd : FP.dadd x y = UInt64.ofNat (FP.Core.encode FP.Core.b64 (FP.Core.roundRatio FP.Core.b64 false (c * 2 ^ (q - min q r).toNat + d * 2 ^ (r - min q r).toNat) 1 (min q r))) := by
    show UInt64.ofNat (FP.Core.encode FP.Core.b64 (FP.Core.round FP.Core.b64 (FP.Core.exactSum (FP.Core.decode FP.Core.b64 x.toNat) (FP.Core.decode FP.Core.b64 y.toNat)))) = _
    rw [h1, h3, hs]
    rfl
  obtain ⟨u, u1, -, u2, -, -⟩ := fp_pd (A := c * 2 ^ (q - min q r).toNat + d * 2 ^ (r - min q r).toNat) (B := 1) (X := a + b) (Y := 1) (α := (min q r + 1074).toNat) (β := 0) (e := min q r) (by omega) (by omega) (by omega) (by
    rw [Nat.mul_one, Nat.add_mul, pow_cut (by omega) (by omega), pow_cut (by omega) (by omega), h2, h4]
    rw [Nat.pow_zero, Nat.mul_one, Nat.mul_one]) (by rw [Nat.mul_one]; exact h)
  rw [← hd] at u1
  have := u2 (Or.inl rfl)
  rw [Nat.mul_one] at this
  exact ⟨u, u1, this⟩
/-- a product, from above -/
theorem dmul_n {x y : UInt64} {a b i j : Nat} (hx : Pd x a) (hy : Pd y b) (ha : a ≤ OO * 2 ^ i) (hb : b ≤ OO * 2 ^ j) (hij : i + j ≤ 1022) : ∃ u, Pd (FP.dmul x y) u ∧ u ≤ OO * 2 ^ (i + j) ∧ (∀ v, a * b = v * OO → Rep v → u = v) := by
  obtain ⟨c, q, h1, h2⟩ := hx
  obtain ⟨d, r, h3, h4⟩ := hy
  have hq := (fp_fits x h1).1.2.1
  have hr := (fp_fits y h3).1.2.1
  have hd : FP.dmul x y = UInt64.ofNat (FP.Core.encode FP.Core.b64 (FP.Core.roundRatio FP.Core.b64 false (c * d) 1 (q + r))) := by
    show UInt64.ofNat (FP.Core.encode FP.Core.b64 (FP.Core.round FP.Core.b64 (FP.Core.exactProduct (FP.Core.decode FP.Core.b64 x.toNat) (FP.Core.decode FP.Core.b64 y.toNat)))) = _
    rw [h1, h3]
    rfl
  have hX : a * b ≤ OO * 2 ^ (i + j) * OO := by
    refine Nat.le_trans (Nat.mul_le_mul ha hb) (Nat.le_of_eq ?_)
    rw [Nat.pow_add 2 i j]
    generalize OO = o
    ac_rfl
  obtain ⟨u, u1, u2, -, -, u5⟩ := fp_pd (A := c * d) (B := 1) (X := a * b) (Y := OO) (α := (q + 1074).toNat + (r + 1074).toNat) (β := 1074) (e := q + r) (by omega) OO_pos (by omega) (by
    rw [← h2, ← h4, Nat.pow_add 2 (q + 1074).toNat (r + 1074).toNat, Nat.mul_one]
    show _ = _ * OO
    generalize OO = o
    generalize 2 ^ (q + 1074).toNat = P1
    generalize 2 ^ (r + 1074).toNat = P2
    ac_rfl) (Nat.le_trans hX (Nat.mul_le_mul_right _ (OO_mx hij)))
  rw [← hd] at u1
  refine ⟨u, u1, ?_, u5⟩
  rw [← OO_e (n := 1074 + (i + j)) rfl] at hX ⊢
  exact u2 _ hX
/-- a quotient -/
theorem ddiv_n {x y : UInt64} {a b : Nat} (hx : Pd x a) (hy : Pd y b) (hb : 0 < b) (h : a * OO ≤ MX * b) : ∃ u, Pd (FP.ddiv x y) u ∧ (∀ k, a ≤ 2 ^ k * b → u ≤ OO * 2 ^ k) ∧ (2 ^ 52 * b ≤ a * OO → 1023 * (a * OO) ≤ 1024 * (u * b) ∧ 1023 * (u * b) ≤ 1024 * (a * OO)) ∧ (a = 0 → u = 0) ∧ (∀ v, a * OO = v * b → Rep v → u = v) := by
  obtain ⟨c, q, h1, h2⟩ := hx
  obtain ⟨d, r, h3, h4⟩ := hy
  have hq := (fp_fits x h1).1.2.1
  have hr := (fp_fits y h3).1.2.1
  have hd0 : ¬ d = 0 := by
    intro hc
    rw [hc, Nat.zero_mul] at h4
    omega
  have hd : FP.ddiv x y = UInt64.ofNat (FP.Core.encode FP.Core.b64 (FP.Core.roundRatio FP.Core.b64 false c d (q - r))) := by
    show UInt64.ofNat (FP.Core.encode FP.Core.b64 (FP.Core.quotient FP.Core.b64 (FP.Core.decode FP.Core.b64 x.toNat) (FP.Core.decode FP.Core.b64 y.toNat))) = _
    rw [h1, h3]
    unfold FP.Core.quotient
    dsimp only
    rw [if_neg hd0]
    rfl
  obtain ⟨u, u1, u2, u3, u4, u5⟩ := fp_pd (A := c) (B := d) (X := a * OO) (Y := b) (α := (q + 1074).toNat + 1074) (β := (r + 1074).toNat) (e := q - r) (by omega) hb (by omega) (by
    rw [← h2, ← h4, Nat.pow_add 2 (q + 1074).toNat 1074]
    show _ * (_ * OO) = _
    generalize OO = o
    generalize 2 ^ (q + 1074).toNat = P1
    generalize 2 ^ (r + 1074).toNat = P2
    ac_rfl) h
  rw [← hd] at u1
  refine ⟨u, u1, fun k hk => ?_, fun hn => u3 (Or.inr hn), fun ha => u4 (by rw [ha, Nat.zero_mul]), u5⟩
  rw [← OO_e (n := 1074 + k) rfl]
  refine u2 _ ?_
  rw [OO_e (n := 1074 + k) rfl, Nat.mul_comm a, Nat.mul_assoc]
  exact Nat.mul_le_mul_left _ hk
/-- a comparison -/
theorem dcmp_n {x y : UInt64} {a b : Nat} (hx : Pd x a) (hy : Pd y b) (o : Jvm.ClassFile.CmpOp) : Op.cmpValue (FP.dcmp x y) o = if a < b then -1 else if a = b then 0 else 1 := by
  obtain ⟨c, q, h1, h2⟩ := hx
  obtain ⟨d, r, h3, h4⟩ := hy
  have hq := (fp_fits x h1).1.2.1
  have hr := (fp_fits y h3).1.2.1
  have hd : FP.dcmp x y = some (compare ((c * 2 ^ (q - min q r).toNat : Nat) : Int) ((d * 2 ^ (r - min q r).toNat : Nat) : Int)) := by
    show FP.Core.order (FP.Core.decode FP.Core.b64 x.toNat) (FP.Core.decode FP.Core.b64 y.toNat) = _
    rw [h1, h3]
    rfl
  have e1 := pow_cut (c := c) (q := q) (e := min q r) (by omega) (by omega)
  have e2 := pow_cut (c := d) (q := r) (e := min q r) (by omega) (by omega)
  rw [h2] at e1
  rw [h4] at e2
  rw [hd]
  generalize c * 2 ^ (q - min q r).toNat = x1 at *
  generalize d * 2 ^ (r - min q r).toNat = y1 at *
  have hP := Nat.two_pow_pos (min q r + 1074).toNat
  generalize 2 ^ (min q r + 1074).toNat = P at *
  have hc : compare (x1 : Int) (y1 : Int) = if (x1 : Int) < y1 then .lt else if (x1 : Int) = y1 then .eq else .gt := rfl
  rw [hc, ← e1, ← e2]
  by_cases c1 : x1 < y1
  · rw [if_pos (show (x1 : Int) < y1 by omega), if_pos (Nat.mul_lt_mul_of_pos_right c1 hP)]
    rfl
  · by_cases c2 : x1 = y1
    · subst c2
      rw [if_neg (by omega), if_pos rfl, if_neg (Nat.lt_irrefl _), if_pos rfl]
      rfl
    · have c3 : y1 * P < x1 * P := Nat.mul_lt_mul_of_pos_right (by omega) hP
      rw [if_neg (by omega), if_neg (by omega), if_neg (by omega), if_neg (by omega)]
      rfl
theorem dcmp_le {x y : UInt64} {a b : Nat} (hx : Pd x a) (hy : Pd y b) (o : Jvm.ClassFile.CmpOp) : Op.cmpValue (FP.dcmp x y) o ≤ 0 ↔ a ≤ b := by
  rw [dcmp_n hx hy o]
  by_cases h : a < b
  · rw [if_pos h]; exact ⟨fun _ => Nat.le_of_lt h, fun _ => by decide⟩
  · rw [if_neg h]
    by_cases h2 : a = b
    · rw [if_pos h2]; exact ⟨fun _ => Nat.le_of_eq h2, fun _ => by decide⟩
    · rw [if_neg h2]; exact ⟨fun hc => absurd hc (by decide), fun hc => by omega⟩
theorem dcmp_lt {x y : UInt64} {a b : Nat} (hx : Pd x a) (hy : Pd y b) (o : Jvm.ClassFile.CmpOp) : Op.cmpValue (FP.dcmp x y) o < 0 ↔ a < b := by
  rw [dcmp_n hx hy o]
  by_cases h : a < b
  · rw [if_pos h]; exact ⟨fun _ => h, fun _ => by decide⟩
  · rw [if_neg h]
    by_cases h2 : a = b
    · rw [if_pos h2]; exact ⟨fun hc => absurd hc (by decide), fun hc => by omega⟩
    · rw [if_neg h2]; exact ⟨fun hc => absurd hc (by decide), fun hc => by omega⟩
theorem dcmp_ge {x y : UInt64} {a b : Nat} (hx : Pd x a) (hy : Pd y b) (o : Jvm.ClassFile.CmpOp) : 0 ≤ Op.cmpValue (FP.dcmp x y) o ↔ b ≤ a := by
  rw [dcmp_n hx hy o]
  by_cases h : a < b
  · rw [if_pos h]; exact ⟨fun hc => absurd hc (by decide), fun hc => by omega⟩
  · rw [if_neg h]
    by_cases h2 : a = b
    · rw [if_pos h2]; exact ⟨fun _ => by omega, fun _ => by decide⟩
    · rw [if_neg h2]; exact ⟨fun _ => by omega, fun _ => by decide⟩
theorem dcmp_gt {x y : UInt64} {a b : Nat} (hx : Pd x a) (hy : Pd y b) (o : Jvm.ClassFile.CmpOp) : 0 < Op.cmpValue (FP.dcmp x y) o ↔ b < a := by
  rw [dcmp_n hx hy o]
  by_cases h : a < b
  · rw [if_pos h]; exact ⟨fun hc => absurd hc (by decide), fun hc => by omega⟩
  · rw [if_neg h]
    by_cases h2 : a = b
    · rw [if_pos h2]; exact ⟨fun hc => absurd hc (by decide), fun hc => by omega⟩
    · rw [if_neg h2]; exact ⟨fun _ => by omega, fun _ => by decide⟩
/-- zero, one, small whole numbers -/
theorem Pd_0 : Pd FP.dconst0 0 := ⟨0, -1074, by decide +kernel, rfl⟩
theorem Pd_1 : Pd FP.dconst1 OO := ⟨2 ^ 52, -52, by decide +kernel, by
  rw [show ((-52 : Int) + 1074).toNat = 1022 from rfl, ← Nat.pow_add 2 52 1022]
  rfl⟩
theorem Pd_2 : Pd (4611686018427387904 : UInt64) (OO * 2 ^ 1) := ⟨2 ^ 52, -51, by decide +kernel, by
  rw [show ((-51 : Int) + 1074).toNat = 1023 from rfl, ← Nat.pow_add 2 52 1023]
  exact OO_e (by omega)⟩
theorem Pd_32 : Pd (4751297606875873280 : UInt64) (OO * 2 ^ 32) := ⟨2 ^ 52, -20, by decide +kernel, by
  rw [show ((-20 : Int) + 1074).toNat = 1054 from rfl, ← Nat.pow_add 2 52 1054]
  exact OO_e (by omega)⟩
theorem i2d_n {j : Nat} (hj : j ≤ 128) : ∃ u, Pd (FP.i2d (nI j)) u ∧ 1023 * (j * OO) ≤ 1024 * u ∧ 1023 * u ≤ 1024 * (j * OO) := by
  have hd : FP.i2d (nI j) = UInt64.ofNat (FP.Core.encode FP.Core.b64 (FP.Core.roundRatio FP.Core.b64 false j 1 0)) := by
    show UInt64.ofNat (FP.Core.encode FP.Core.b64 (FP.Core.round FP.Core.b64 (FP.Core.ofInt (nI j).toInt))) = _
    rw [nI_toInt (by omega)]
    unfold FP.Core.ofInt
    rw [decide_eq_false (by omega), Int.natAbs_natCast]
    rfl
  obtain ⟨u, u1, -, u2, -, -⟩ := fp_pd (A := j) (B := 1) (X := j * OO) (Y := 1) (α := 1074) (β := 0) (e := 0) (by omega) (by omega) (by omega) (by
    show j * 1 * OO = j * OO * 1 * 1
    rw [Nat.mul_one, Nat.mul_one, Nat.mul_one]) (by
    rw [Nat.mul_one]
    calc j * OO ≤ 2 ^ 7 * OO := Nat.mul_le_mul_right _ hj
      _ ≤ MX := by rw [Nat.mul_comm]; exact OO_mx (by omega))
  rw [← hd] at u1
  have := u2 (Or.inl rfl)
  rw [Nat.mul_one] at this
  exact ⟨u, u1, this⟩
