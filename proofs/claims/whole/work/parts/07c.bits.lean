/-! MATHEMATICS: the bits of a double, taken by dividing and doubling -/
theorem l_shl (E : Nat) : lN E <<< ((52 : Int32).toInt64 &&& 63) = lN (E * 2 ^ 52) := by
  rw [show (52 : Int32).toInt64 &&& 63 = 52 by decide]
  refine Int64.toBitVec_inj.mp ?_
  rw [Int64.toBitVec_shiftLeft]
  show BitVec.ofNat 64 E <<< ((52 : Int64).toBitVec.smod 64) = BitVec.ofNat 64 (E * 2 ^ 52)
  rw [show (52 : Int64).toBitVec.smod 64 = 52#64 by decide]
  refine BitVec.eq_of_toNat_eq ?_
  rw [BitVec.shiftLeft_eq', BitVec.toNat_shiftLeft, BitVec.toNat_ofNat]
  show (E % 2 ^ 64) <<< 52 % 2 ^ 64 = (BitVec.ofNat 64 (E * 2 ^ 52)).toNat
  rw [BitVec.toNat_ofNat, Nat.shiftLeft_eq, Nat.mod_mul_mod]
theorem l_shr {M s : Nat} (hM : M < 2 ^ 62) (hs : s < 64) : lN M >>> ((nI s).toInt64 &&& 63) = lN (M / 2 ^ s) := by
  have e : ∀ s, s < 64 → ((nI s).toInt64 &&& 63).toBitVec.smod 64 = BitVec.ofNat 64 s := by decide +kernel
  refine Int64.toBitVec_inj.mp ?_
  rw [Int64.toBitVec_shiftRight, e s hs]
  show (BitVec.ofNat 64 M).sshiftRight' (BitVec.ofNat 64 s) = BitVec.ofNat 64 (M / 2 ^ s)
  rw [BitVec.sshiftRight', BitVec.sshiftRight_eq_of_msb_false]
  · refine BitVec.eq_of_toNat_eq ?_
    have h1 : M / 2 ^ s ≤ M := Nat.div_le_self _ _
    rw [BitVec.toNat_ushiftRight, BitVec.toNat_ofNat, BitVec.toNat_ofNat, BitVec.toNat_ofNat, Nat.shiftRight_eq_div_pow, Nat.mod_eq_of_lt (by omega), Nat.mod_eq_of_lt (by omega), Nat.mod_eq_of_lt (by omega)]
  · rw [BitVec.msb_eq_false_iff_two_mul_lt, BitVec.toNat_ofNat]
    omega
theorem lN_bits {x : UInt64} : x.toInt64 = lN x.toNat := Int64.toBitVec_inj.mp (by
  show x.toBitVec = BitVec.ofNat 64 x.toNat
  refine BitVec.eq_of_toNat_eq ?_
  rw [BitVec.toNat_ofNat]
  exact (Nat.mod_eq_of_lt x.toNat_lt).symm)
theorem Pd.max {x : UInt64} {u : Nat} (h : Pd x u) : u < OO * 2 ^ 1024 := by
  obtain ⟨c, q, h1, rfl⟩ := h
  obtain ⟨f1, f2, f3, f4⟩ := (fp_fits x h1).1
  rw [← OO_e (n := 1074 + 1024) rfl]
  calc c * 2 ^ (q + 1074).toNat < 2 ^ 53 * 2 ^ (q + 1074).toNat := Nat.mul_lt_mul_of_pos_right f1 (Nat.two_pow_pos _)
    _ = 2 ^ (53 + (q + 1074).toNat) := (Nat.pow_add _ _ _).symm
    _ ≤ 2 ^ (1074 + 1024) := Nat.pow_le_pow_right (by omega) (by omega)
theorem OO_52 : 2 ^ 52 ≤ OO := Nat.pow_le_pow_right (by omega) (by omega)
/-- division by a power of two, where nothing is lost -/
theorem ddiv_two {x y : UInt64} {v i : Nat} (hx : Pd x (v * 2 ^ i)) (hy : Pd y (OO * 2 ^ i)) (hv : OO ≤ v) (hm : v ≤ MX) : Pd (FP.ddiv x y) v := by
  have hb : 0 < OO * 2 ^ i := Nat.mul_pos OO_pos (Nat.two_pow_pos i)
  obtain ⟨u, u1, -, -, -, u5⟩ := ddiv_n hx hy hb (by
    calc v * 2 ^ i * OO ≤ MX * 2 ^ i * OO := Nat.mul_le_mul_right _ (Nat.mul_le_mul_right _ hm)
      _ = MX * (OO * 2 ^ i) := by
        generalize OO = o
        generalize MX = m
        ac_rfl)
  have : u = v := u5 v (by
    generalize OO = o
    ac_rfl) (Rep.down (Nat.le_trans OO_52 hv) i hx.rep)
  rw [← this]
  exact u1
theorem dmul_two {x y : UInt64} {a i j : Nat} (hx : Pd x a) (hy : Pd y (OO * 2 ^ i)) (ha : a ≤ OO * 2 ^ j) (hij : j + i ≤ 1022) : Pd (FP.dmul x y) (a * 2 ^ i) := by
  obtain ⟨u, u1, -, u5⟩ := dmul_n (i := j) (j := i) hx hy ha (Nat.le_refl _) hij
  have : u = a * 2 ^ i := u5 _ (by
    generalize OO = o
    ac_rfl) (hx.rep.up i)
  rw [← this]
  exact u1
theorem iI_32 (a : Int) : iI a + (32 : Int32) = iI (a + 32) := by rw [← iI_add, show iI 32 = (32 : Int32) by decide]
theorem iI_m32 (a : Int) : iI a + (-32 : Int32) = iI (a + -32) := by rw [← iI_add, show iI (-32) = (-32 : Int32) by decide]
theorem iI_1 (a : Int) : iI a + (1 : Int32) = iI (a + 1) := by rw [← iI_add, show iI 1 = (1 : Int32) by decide]
theorem iI_m1 (a : Int) : iI a + (-1 : Int32) = iI (a + -1) := by rw [← iI_add, show iI (-1) = (-1 : Int32) by decide]
theorem le40 {k : Nat} (h : k < 40) : ¬ (40 : Int32) ≤ nI k := by
  rw [show (40 : Int32) = nI 40 from rfl, nI_leI (by omega) (by omega)]
  omega
theorem of_L1 {x : UInt64} {u : Nat} (hx : Pd x u) (h0 : 0 < u) : ∃ (y : UInt64) (v k : Nat), lpN f_X1_of_L1 FU (x, (1023 : Int32), (0 : Int32)) = some (y, iI (1023 + 32 * k)) ∧ Pd y v ∧ v * 2 ^ (32 * k) = u ∧ v < OO * 2 ^ 32 ∧ (k = 0 ∨ OO ≤ v) ∧ k < 33 := by
  have hmax := hx.max
  have h := lp_inv (body := f_X1_of_L1) (fun s => ∃ (y : UInt64) (v k : Nat), s = (y, iI (1023 + 32 * (k : Int)), nI k) ∧ Pd y v ∧ v * 2 ^ (32 * k) = u ∧ (k = 0 ∨ OO ≤ v) ∧ k < 33) (fun s => 40 - s.2.2.toNatClampNeg) (fun r => ∃ (y : UInt64) (v k : Nat), r = (y, iI (1023 + 32 * k)) ∧ Pd y v ∧ v * 2 ^ (32 * k) = u ∧ v < OO * 2 ^ 32 ∧ (k = 0 ∨ OO ≤ v) ∧ k < 33) (by
    rintro s ⟨y, v, k, rfl, p1, p2, p3, p4⟩
    rw [f_X1_of_L1, if_neg (le40 (by omega))]
    by_cases hlt : v < OO * 2 ^ 32
    · right
      rw [if_pos ((dcmp_lt p1 Pd_32 _).mpr hlt)]
      exact ⟨_, rfl, y, v, k, rfl, p1, p2, hlt, p3, p4⟩
    · left
      rw [if_neg (fun hc => hlt ((dcmp_lt p1 Pd_32 _).mp hc))]
      obtain ⟨w, hw⟩ : ∃ w, v = w * 2 ^ 32 := by
        obtain ⟨M, t, r1, r2, r3⟩ := p1.rep
        have ht : 32 ≤ t := by
          refine Decidable.byContradiction fun hc => hlt ?_
          rw [r1]
          calc M * 2 ^ t < 2 ^ 53 * 2 ^ t := Nat.mul_lt_mul_of_pos_right r2 (Nat.two_pow_pos t)
            _ ≤ 2 ^ 53 * 2 ^ 31 := Nat.mul_le_mul_left _ (Nat.pow_le_pow_right (by omega) (by omega))
            _ ≤ 2 ^ 52 * 2 ^ 32 := by decide
            _ ≤ OO * 2 ^ 32 := Nat.mul_le_mul_right _ OO_52
        refine ⟨M * 2 ^ (t - 32), ?_⟩
        rw [r1, Nat.mul_assoc, ← Nat.pow_add, show t - 32 + 32 = t by omega]
      have hwO : OO ≤ w := by
        rw [hw] at hlt
        exact Nat.le_of_mul_le_mul_right (Nat.le_of_not_lt hlt) (Nat.two_pow_pos 32)
      have hwM : w ≤ MX := by
        have h1 := p1.max
        rw [hw] at h1
        rw [← OO_e (n := 1074 + 1024) rfl] at h1
        refine Nat.le_of_lt (Nat.lt_of_mul_lt_mul_right (a := 2 ^ 32) ?_)
        refine Nat.lt_of_lt_of_le h1 ?_
        unfold MX
        rw [← Nat.pow_add]
        exact Nat.pow_le_pow_right (by omega) (by omega)
      have hd : Pd (FP.ddiv y 4751297606875873280) w := by
        rw [hw] at p1
        exact ddiv_two p1 Pd_32 hwO hwM
      rw [gd_t hd.ok, pl_e, pl_e, pl_e, iI_32, nI_1]
      have hu : w * 2 ^ (32 * (k + 1)) = u := by
        rw [← p2, hw, show 32 * (k + 1) = 32 + 32 * k by omega, Nat.pow_add, Nat.mul_assoc]
      have hk : k + 1 < 33 := by
        refine Decidable.byContradiction fun hc => ?_
        have : OO * 2 ^ 1024 ≤ u := by
          rw [← hu]
          exact Nat.mul_le_mul hwO (Nat.pow_le_pow_right (by omega) (by omega))
        omega
      refine ⟨_, rfl, ⟨_, w, k + 1, ?_, hd, hu, Or.inr hwO, hk⟩, ?_⟩
      · rw [show (1023 + 32 * (k : Int) + 32) = 1023 + 32 * ((k + 1 : Nat) : Int) by omega]
      · show 40 - (nI (k + 1)).toNatClampNeg < 40 - (nI k).toNatClampNeg
        rw [nI_clamp (by omega), nI_clamp (by omega)]
        omega) FU (x, (1023 : Int32), (0 : Int32)) ⟨x, u, 0, rfl, hx, by rw [Nat.mul_zero, Nat.pow_zero, Nat.mul_one], Or.inl rfl, by omega⟩ (FU_lt (by
      show 40 - _ < 100000
      omega))
  obtain ⟨r, hr, y, v, k, rfl, p⟩ := h
  exact ⟨y, v, k, hr, p⟩
theorem of_L2 {x : UInt64} {u : Nat} {e : Int} (hx : Pd x u) (h0 : 0 < u) (hu : u < OO * 2 ^ 32) : ∃ (y : UInt64) (v k : Nat), lpN f_X1_of_L2 FU (x, iI e, (0 : Int32)) = some (y, iI (e - 32 * k)) ∧ Pd y v ∧ v = u * 2 ^ (32 * k) ∧ v < OO * 2 ^ 32 ∧ OO ≤ v * 2 ^ 32 ∧ (k = 0 ∨ v < OO) ∧ k < 35 := by
  have h := lp_inv (body := f_X1_of_L2) (fun s => ∃ (y : UInt64) (v k : Nat), s = (y, iI (e - 32 * (k : Int)), nI k) ∧ Pd y v ∧ v = u * 2 ^ (32 * k) ∧ v < OO * 2 ^ 32 ∧ (k = 0 ∨ v < OO) ∧ k < 35) (fun s => 40 - s.2.2.toNatClampNeg) (fun r => ∃ (y : UInt64) (v k : Nat), r = (y, iI (e - 32 * k)) ∧ Pd y v ∧ v = u * 2 ^ (32 * k) ∧ v < OO * 2 ^ 32 ∧ OO ≤ v * 2 ^ 32 ∧ (k = 0 ∨ v < OO) ∧ k < 35) (by
    rintro s ⟨y, v, k, rfl, p1, p2, p3, p4, p5⟩
    have hd : Pd (FP.dmul y 4751297606875873280) (v * 2 ^ 32) := dmul_two p1 Pd_32 (Nat.le_of_lt p3) (by omega)
    rw [f_X1_of_L2, if_neg (le40 (by omega)), gd_t hd.ok]
    by_cases hge : OO ≤ v * 2 ^ 32
    · right
      rw [if_pos ((dcmp_ge hd Pd_1 _).mpr hge)]
      exact ⟨_, rfl, y, v, k, rfl, p1, p2, p3, hge, p4, p5⟩
    · left
      rw [if_neg (fun hc => hge ((dcmp_ge hd Pd_1 _).mp hc)), gd_t hd.ok, pl_e, pl_e, pl_e, iI_m32, nI_1]
      have hu2 : v * 2 ^ 32 = u * 2 ^ (32 * (k + 1)) := by
        rw [p2, show 32 * (k + 1) = 32 * k + 32 by omega, Nat.pow_add, Nat.mul_assoc]
      have hk : k + 1 < 35 := by
        refine Decidable.byContradiction fun hc => hge ?_
        rw [hu2]
        unfold OO
        calc 2 ^ 1074 ≤ 2 ^ (32 * (k + 1)) := Nat.pow_le_pow_right (by omega) (by omega)
          _ ≤ u * 2 ^ (32 * (k + 1)) := Nat.le_mul_of_pos_left _ h0
      refine ⟨_, rfl, ⟨_, v * 2 ^ 32, k + 1, ?_, hd, hu2, ?_, Or.inr (by omega), hk⟩, ?_⟩
      · rw [show e - 32 * (k : Int) + -32 = e - 32 * ((k + 1 : Nat) : Int) by omega]
      · have : OO ≤ OO * 2 ^ 32 := Nat.le_mul_of_pos_right _ (Nat.two_pow_pos 32)
        omega
      · show 40 - (nI (k + 1)).toNatClampNeg < 40 - (nI k).toNatClampNeg
        rw [nI_clamp (by omega), nI_clamp (by omega)]
        omega) FU (x, iI e, (0 : Int32)) ⟨x, u, 0, by rw [show e - 32 * ((0 : Nat) : Int) = e by omega]; rfl, hx, by rw [Nat.mul_zero, Nat.pow_zero, Nat.mul_one], hu, Or.inl rfl, by omega⟩ (FU_lt (by
      show 40 - _ < 100000
      omega))
  obtain ⟨r, hr, y, v, k, rfl, p⟩ := h
  exact ⟨y, v, k, hr, p⟩
theorem of_L3 {x : UInt64} {u : Nat} {e : Int} (hx : Pd x u) (hu : u < OO * 2 ^ 32) : ∃ (y : UInt64) (v k : Nat), lpN f_X1_of_L3 FU (x, iI e, (0 : Int32)) = some (y, iI (e + k)) ∧ Pd y v ∧ v * 2 ^ k = u ∧ v < OO * 2 ^ 1 ∧ (k = 0 ∨ OO ≤ v) ∧ k < 33 := by
  have h := lp_inv (body := f_X1_of_L3) (fun s => ∃ (y : UInt64) (v k : Nat), s = (y, iI (e + (k : Int)), nI k) ∧ Pd y v ∧ v * 2 ^ k = u ∧ (k = 0 ∨ OO ≤ v) ∧ k < 33) (fun s => 40 - s.2.2.toNatClampNeg) (fun r => ∃ (y : UInt64) (v k : Nat), r = (y, iI (e + k)) ∧ Pd y v ∧ v * 2 ^ k = u ∧ v < OO * 2 ^ 1 ∧ (k = 0 ∨ OO ≤ v) ∧ k < 33) (by
    rintro s ⟨y, v, k, rfl, p1, p2, p3, p4⟩
    rw [f_X1_of_L3, if_neg (le40 (by omega))]
    by_cases hlt : v < OO * 2 ^ 1
    · right
      rw [if_pos ((dcmp_lt p1 Pd_2 _).mpr hlt)]
      exact ⟨_, rfl, y, v, k, rfl, p1, p2, hlt, p3, p4⟩
    · left
      rw [if_neg (fun hc => hlt ((dcmp_lt p1 Pd_2 _).mp hc))]
      obtain ⟨w, hw⟩ : ∃ w, v = w * 2 ^ 1 := by
        obtain ⟨M, t, r1, r2, r3⟩ := p1.rep
        have ht : 1 ≤ t := by
          refine Decidable.byContradiction fun hc => hlt ?_
          rw [r1, show t = 0 by omega, Nat.pow_zero, Nat.mul_one]
          calc M < 2 ^ 52 * 2 ^ 1 := r2
            _ ≤ OO * 2 ^ 1 := Nat.mul_le_mul_right _ OO_52
        refine ⟨M * 2 ^ (t - 1), ?_⟩
        rw [r1, Nat.mul_assoc, ← Nat.pow_add, show t - 1 + 1 = t by omega]
      have hwO : OO ≤ w := by
        rw [hw] at hlt
        exact Nat.le_of_mul_le_mul_right (Nat.le_of_not_lt hlt) (Nat.two_pow_pos 1)
      have hu2 : w * 2 ^ (k + 1) = u := by
        rw [← p2, hw, Nat.mul_assoc, ← Nat.pow_add, Nat.add_comm 1 k]
      have hwM : w ≤ MX := by
        have h1 : w ≤ u := by rw [← hu2]; exact Nat.le_mul_of_pos_right _ (Nat.two_pow_pos _)
        exact Nat.le_trans h1 (Nat.le_trans (Nat.le_of_lt hu) (OO_mx (by omega)))
      have hd : Pd (FP.ddiv y 4611686018427387904) w := by
        rw [hw] at p1
        exact ddiv_two p1 Pd_2 hwO hwM
      rw [gd_t hd.ok, pl_e, pl_e, pl_e, iI_1, nI_1]
      have hk : k + 1 < 33 := by
        refine Decidable.byContradiction fun hc => ?_
        have : OO * 2 ^ 32 ≤ u := by
          rw [← hu2]
          exact Nat.mul_le_mul hwO (Nat.pow_le_pow_right (by omega) (by omega))
        omega
      refine ⟨_, rfl, ⟨_, w, k + 1, ?_, hd, hu2, Or.inr hwO, hk⟩, ?_⟩
      · rw [show e + (k : Int) + 1 = e + ((k + 1 : Nat) : Int) by omega]
      · show 40 - (nI (k + 1)).toNatClampNeg < 40 - (nI k).toNatClampNeg
        rw [nI_clamp (by omega), nI_clamp (by omega)]
        omega) FU (x, iI e, (0 : Int32)) ⟨x, u, 0, by rw [show e + ((0 : Nat) : Int) = e by omega]; rfl, hx, by rw [Nat.pow_zero, Nat.mul_one], Or.inl rfl, by omega⟩ (FU_lt (by
      show 40 - _ < 100000
      omega))
  obtain ⟨r, hr, y, v, k, rfl, p⟩ := h
  exact ⟨y, v, k, hr, p⟩
theorem of_L4 {x : UInt64} {u : Nat} {e : Int} (hx : Pd x u) (hu : u < OO * 2 ^ 1) (h0 : OO ≤ u * 2 ^ 32) : ∃ (y : UInt64) (v k : Nat), lpN f_X1_of_L4 FU (x, iI e, (0 : Int32)) = some (y, iI (e - k)) ∧ Pd y v ∧ v = u * 2 ^ k ∧ v < OO * 2 ^ 1 ∧ OO ≤ v ∧ k < 34 := by
  have h := lp_inv (body := f_X1_of_L4) (fun s => ∃ (y : UInt64) (v k : Nat), s = (y, iI (e - (k : Int)), nI k) ∧ Pd y v ∧ v = u * 2 ^ k ∧ v < OO * 2 ^ 1 ∧ k < 34) (fun s => 40 - s.2.2.toNatClampNeg) (fun r => ∃ (y : UInt64) (v k : Nat), r = (y, iI (e - k)) ∧ Pd y v ∧ v = u * 2 ^ k ∧ v < OO * 2 ^ 1 ∧ OO ≤ v ∧ k < 34) (by
    rintro s ⟨y, v, k, rfl, p1, p2, p3, p4⟩
    rw [f_X1_of_L4, if_neg (le40 (by omega))]
    by_cases hge : OO ≤ v
    · right
      rw [if_pos ((dcmp_ge p1 Pd_1 _).mpr hge)]
      exact ⟨_, rfl, y, v, k, rfl, p1, p2, p3, hge, p4⟩
    · left
      have hd : Pd (FP.dmul y 4611686018427387904) (v * 2 ^ 1) := dmul_two p1 Pd_2 (Nat.le_of_lt p3) (by omega)
      rw [if_neg (fun hc => hge ((dcmp_ge p1 Pd_1 _).mp hc)), gd_t hd.ok, pl_e, pl_e, pl_e, iI_m1, nI_1]
      have hu2 : v * 2 ^ 1 = u * 2 ^ (k + 1) := by
        rw [p2, Nat.pow_add, Nat.mul_assoc]
      have hk : k < 32 := by
        refine Decidable.byContradiction fun hc => hge ?_
        rw [p2]
        exact Nat.le_trans h0 (Nat.mul_le_mul_left _ (Nat.pow_le_pow_right (by omega) (by omega)))
      refine ⟨_, rfl, ⟨_, v * 2 ^ 1, k + 1, ?_, hd, hu2, ?_, by omega⟩, ?_⟩
      · rw [show e - (k : Int) + -1 = e - ((k + 1 : Nat) : Int) by omega]
      · exact Nat.mul_lt_mul_of_pos_right (by omega) (Nat.two_pow_pos 1)
      · show 40 - (nI (k + 1)).toNatClampNeg < 40 - (nI k).toNatClampNeg
        rw [nI_clamp (by omega), nI_clamp (by omega)]
        omega) FU (x, iI e, (0 : Int32)) ⟨x, u, 0, by rw [show e - ((0 : Nat) : Int) = e by omega]; rfl, hx, by rw [Nat.pow_zero, Nat.mul_one], hu, by omega⟩ (FU_lt (by
      show 40 - _ < 100000
      omega))
  obtain ⟨r, hr, y, v, k, rfl, p⟩ := h
  exact ⟨y, v, k, hr, p⟩
/-- a whole number in a double -/
theorem d2l_n {x : UInt64} {M : Nat} (hx : Pd x (M * OO)) (hM : M < 2 ^ 62) : FP.d2l x = lN M := by
  obtain ⟨c, q, h1, h2⟩ := hx
  have hq := (fp_fits x h1).1.2.1
  have ht : c * 2 ^ q.toNat / 2 ^ (-q).toNat = M := by
    by_cases h : 0 ≤ q
    · rw [show (-q).toNat = 0 by omega, Nat.pow_zero, Nat.div_one]
      refine Nat.eq_of_mul_eq_mul_right OO_pos ?_
      rw [← h2, show (q + 1074).toNat = 1074 + q.toNat by omega, OO_e (k := q.toNat) rfl]
      generalize OO = o
      ac_rfl
    · have e : M * 2 ^ (-q).toNat = c := by
        refine Nat.eq_of_mul_eq_mul_right (Nat.two_pow_pos (q + 1074).toNat) ?_
        rw [h2, Nat.mul_assoc, ← Nat.pow_add, show (-q).toNat + (q + 1074).toNat = 1074 by omega]
        rfl
      rw [show q.toNat = 0 by omega, Nat.pow_zero, Nat.mul_one, ← e, Nat.mul_div_cancel _ (Nat.two_pow_pos _)]
  show FP.Core.toL (FP.Core.decode FP.Core.b64 x.toNat) = lN M
  rw [h1]
  show Int64.ofInt (max (-2 ^ 63) (min (2 ^ 63 - 1) (((c * 2 ^ q.toNat / 2 ^ (-q).toNat : Nat)) : Int))) = lN M
  rw [ht, show max (-2 ^ 63) (min (2 ^ 63 - 1) (M : Int)) = (M : Int) by omega]
  rfl
theorem Pd_52 : Pd (4841369599423283200 : UInt64) (OO * 2 ^ 52) := ⟨2 ^ 52, 0, by decide +kernel, by
  rw [show ((0 : Int) + 1074).toNat = 1074 from rfl]
  rw [← Nat.pow_add 2 52 1074]
  exact OO_e (by omega)⟩
/-- the bits, by exponent and significand -/
theorem join_n {M : Nat} {E : Int} (h1 : 2 ^ 52 ≤ M) (h2 : M < 2 ^ 53) (h3 : -51 ≤ E) (h4 : E ≤ 2046) : f_X1_join (iI E) (lN M) = some (lN (if 1 ≤ E then E.toNat * 2 ^ 52 + (M - 2 ^ 52) else M / 2 ^ (1 - E).toNat)) := by
  unfold f_X1_join
  by_cases h : 1 ≤ E
  · obtain ⟨n, rfl⟩ : ∃ n : Nat, E = n := ⟨E.toNat, by omega⟩
    have e : iI (n : Int) = nI n := rfl
    rw [e, if_pos h, if_pos (by rw [show (1 : Int32) = nI 1 from rfl, nI_leI (by omega) (by omega)]; omega), nI_l (by omega), l_shl]
    refine congrArg some ?_
    refine Int64.toBitVec_inj.mp ?_
    show BitVec.ofNat 64 (n * 2 ^ 52) + (BitVec.ofNat 64 M - BitVec.ofNat 64 (2 ^ 52)) = BitVec.ofNat 64 ((n : Int).toNat * 2 ^ 52 + (M - 2 ^ 52))
    refine BitVec.eq_of_toNat_eq ?_
    rw [BitVec.toNat_add, BitVec.toNat_sub, BitVec.toNat_ofNat, BitVec.toNat_ofNat, BitVec.toNat_ofNat, BitVec.toNat_ofNat, Int.toNat_natCast]
    omega
  · rw [if_neg h]
    have hlt : ¬ (1 : Int32) ≤ iI E := by
      rw [show (1 : Int32) = iI 1 from rfl, iI_le (by omega) (by omega) (by omega) (by omega)]
      exact h
    rw [if_neg hlt]
    obtain ⟨s, hs⟩ : ∃ s : Nat, 1 - E = s := ⟨(1 - E).toNat, by omega⟩
    have e : (1 : Int32) - iI E = nI s := by
      rw [Int32.sub_eq_add_neg, show -iI E = iI (-E) from (Int32.ofInt_neg E).symm, show (1 : Int32) = iI 1 from rfl, iI_add, show 1 + -E = (s : Int) by omega]
      rfl
    rw [e, if_neg (by rw [show (53 : Int32) = nI 53 from rfl, nI_ltI (by omega) (by omega)]; omega), l_shr (by omega) (by omega), hs, Int.toNat_natCast]
/-- the class's way to the bits -/
theorem X1_of_n {x : UInt64} {u : Nat} (hx : Pd x u) : f_X1_of x = some x.toInt64 := by
  unfold f_X1_of
  by_cases h0 : 0 < u
  · rw [if_pos ((dcmp_gt hx Pd_0 _).mpr h0)]
    obtain ⟨y1, v1, k1, a1, a2, a3, a4, a5, a6⟩ := of_L1 hx h0
    have hv1 : 0 < v1 := Nat.pos_of_ne_zero (fun hc => by rw [hc, Nat.zero_mul] at a3; omega)
    obtain ⟨y2, v2, k2, b1, b2, b3, b4, b5, b6, b7⟩ := of_L2 (e := 1023 + 32 * k1) a2 hv1 a4
    obtain ⟨y3, v3, k3, c1, c2, c3, c4, c5, c6⟩ := of_L3 (e := 1023 + 32 * k1 - 32 * k2) b2 b4
    have hv3 : OO ≤ v3 * 2 ^ 32 := by
      rcases c5 with c5 | c5
      · rw [c5, Nat.pow_zero, Nat.mul_one] at c3
        rw [c3]
        exact b5
      · exact Nat.le_trans c5 (Nat.le_mul_of_pos_right _ (Nat.two_pow_pos _))
    obtain ⟨y4, v4, k4, d1, d2, d3, d4, d5, d6⟩ := of_L4 (e := 1023 + 32 * k1 - 32 * k2 + k3) c2 c4 hv3
    rw [a1, bs]
    dsimp only
    rw [b1, bs]
    dsimp only
    rw [c1, bs]
    dsimp only
    rw [d1, bs]
    dsimp only
    have hm : Pd (FP.dmul y4 4841369599423283200) (v4 * 2 ^ 52) := dmul_two (j := 1) d2 Pd_52 (Nat.le_of_lt d4) (by omega)
    rw [gd_t hm.ok]
    obtain ⟨M, t, r1, r2, r3⟩ := d2.rep
    have ht : t = 1022 ∧ 2 ^ 52 ≤ M := by
      rw [r1] at d4 d5
      rw [← OO_e (n := 1074 + 1) rfl] at d4
      have ho : OO = 2 ^ 1074 := rfl
      rw [ho] at d5
      have g1 : 1074 < 53 + t := by
        refine (Nat.pow_lt_pow_iff_right (show 1 < 2 by omega)).mp ?_
        refine Nat.lt_of_le_of_lt d5 ?_
        rw [Nat.pow_add 2 53 t]
        exact Nat.mul_lt_mul_of_pos_right r2 (Nat.two_pow_pos t)
      have r4 : 2 ^ 52 ≤ M := by omega
      have g2 : 52 + t < 1074 + 1 := by
        refine (Nat.pow_lt_pow_iff_right (show 1 < 2 by omega)).mp ?_
        refine Nat.lt_of_le_of_lt ?_ d4
        rw [Nat.pow_add 2 52 t]
        exact Nat.mul_le_mul_right _ r4
      exact ⟨by omega, r4⟩
    obtain ⟨rfl, hM⟩ := ht
    have hw : v4 * 2 ^ 52 = M * OO := by
      rw [r1, Nat.mul_assoc, ← Nat.pow_add]
      rfl
    rw [hw] at hm
    rw [d2l_n hm (by omega)]
    obtain ⟨E, hE⟩ : ∃ E : Int, E = 1023 + 32 * k1 - 32 * k2 + k3 - k4 := ⟨_, rfl⟩
    rw [← hE]
    have hval : M * 2 ^ (1022 + 32 * k1 + k3) = u * 2 ^ (32 * k2 + k4) := by
      calc M * 2 ^ (1022 + 32 * k1 + k3) = v4 * 2 ^ (32 * k1 + k3) := by
            rw [r1, Nat.mul_assoc, ← Nat.pow_add, Nat.add_assoc]
        _ = v3 * 2 ^ k3 * 2 ^ k4 * 2 ^ (32 * k1) := by rw [d3, Nat.pow_add]; ac_rfl
        _ = v1 * 2 ^ (32 * k1) * 2 ^ (32 * k2) * 2 ^ k4 := by rw [c3, b3]; ac_rfl
        _ = u * 2 ^ (32 * k2 + k4) := by rw [a3, Nat.pow_add, Nat.mul_assoc]
    obtain ⟨c, q, f1, f2⟩ := hx
    obtain ⟨⟨g1, g2, g3, g4⟩, g5⟩ := fp_fits x f1
    obtain ⟨e1, e2, -⟩ := fp_bits false (c := c) (q := q) ⟨g1, g2, g3, g4⟩
    have hbits : x.toNat = if c < 2 ^ 52 then c else (q + 1074).toNat * 2 ^ 52 + c := by
      rw [g5, UInt64.toNat_ofNat_of_lt' (by simpa using e2), e1]
      show 0 * 2048 * 2 ^ 52 + _ = _
      rw [Nat.zero_add]
    have hval2 : M * 2 ^ (1022 + 32 * k1 + k3) = c * 2 ^ ((q + 1074).toNat + (32 * k2 + k4)) := by
      rw [hval, ← f2, Nat.mul_assoc, ← Nat.pow_add]
    clear hval hw hm r1 a1 b1 c1 d1 a3 b3 c3 d3 a4 b4 c4 d4 b5 hv3 d5 a5 b6 c5
    have hgoal : -51 ≤ E ∧ E ≤ 2046 ∧ x.toNat = if 1 ≤ E then E.toNat * 2 ^ 52 + (M - 2 ^ 52) else M / 2 ^ (1 - E).toNat := by
      by_cases hc : c < 2 ^ 52
      · rw [if_pos hc] at hbits
        have hq : q = -1074 := by omega
        subst hq
        have hc0 : 0 < c := Nat.pos_of_ne_zero (fun h => by rw [h, Nat.zero_mul] at f2; omega)
        rw [show (-1074 + 1074 : Int).toNat = 0 from rfl, Nat.zero_add] at hval2
        have hlt : 1022 + 32 * k1 + k3 < 32 * k2 + k4 := by
          refine Decidable.byContradiction fun hcc => ?_
          have h1 : 2 ^ (32 * k2 + k4) ≤ 2 ^ (1022 + 32 * k1 + k3) := Nat.pow_le_pow_right (by omega) (by omega)
          have h2 : M * 2 ^ (32 * k2 + k4) ≤ c * 2 ^ (32 * k2 + k4) := by
            rw [← hval2]
            exact Nat.mul_le_mul_left _ h1
          have := Nat.le_of_mul_le_mul_right h2 (Nat.two_pow_pos _)
          omega
        obtain ⟨s, hs⟩ : ∃ s, 32 * k2 + k4 = (1022 + 32 * k1 + k3) + s := ⟨32 * k2 + k4 - (1022 + 32 * k1 + k3), by omega⟩
        have hMc : M = c * 2 ^ s := by
          rw [hs, Nat.pow_add 2 (1022 + 32 * k1 + k3) s, Nat.mul_comm (2 ^ (1022 + 32 * k1 + k3)), ← Nat.mul_assoc] at hval2
          exact Nat.eq_of_mul_eq_mul_right (Nat.two_pow_pos _) hval2
        have hs53 : s < 53 := by
          refine (Nat.pow_lt_pow_iff_right (show 1 < 2 by omega)).mp ?_
          refine Nat.lt_of_le_of_lt ?_ r2
          rw [hMc]
          exact Nat.le_mul_of_pos_left _ hc0
        have hEs : 1 - E = s := by omega
        refine ⟨by omega, by omega, ?_⟩
        rw [if_neg (by omega), hbits, hEs, Int.toNat_natCast, hMc, Nat.mul_div_cancel _ (Nat.two_pow_pos _)]
      · rw [if_neg hc] at hbits
        have key : M = c ∧ 1022 + 32 * k1 + k3 = (q + 1074).toNat + (32 * k2 + k4) := by
          generalize (q + 1074).toNat + (32 * k2 + k4) = B at hval2 ⊢
          generalize 1022 + 32 * k1 + k3 = A at hval2 ⊢
          have k1 : A < B + 1 := by
            have : 52 + A < 53 + B := by
              refine (Nat.pow_lt_pow_iff_right (show 1 < 2 by omega)).mp ?_
              rw [Nat.pow_add 2 52 A, Nat.pow_add 2 53 B]
              refine Nat.lt_of_le_of_lt (Nat.mul_le_mul_right _ hM) ?_
              rw [hval2]
              exact Nat.mul_lt_mul_of_pos_right g1 (Nat.two_pow_pos _)
            omega
          have k2 : B < A + 1 := by
            have : 52 + B < 53 + A := by
              refine (Nat.pow_lt_pow_iff_right (show 1 < 2 by omega)).mp ?_
              rw [Nat.pow_add 2 52 B, Nat.pow_add 2 53 A]
              refine Nat.lt_of_le_of_lt (Nat.mul_le_mul_right _ (Nat.le_of_not_lt hc)) ?_
              rw [← hval2]
              exact Nat.mul_lt_mul_of_pos_right r2 (Nat.two_pow_pos _)
            omega
          have : A = B := by omega
          subst this
          exact ⟨Nat.eq_of_mul_eq_mul_right (Nat.two_pow_pos _) hval2, rfl⟩
        obtain ⟨rfl, hAB⟩ := key
        have hEq : E = q + 1075 := by omega
        refine ⟨by omega, by omega, ?_⟩
        have g : ∀ n c : Nat, 2 ^ 52 ≤ c → n * 2 ^ 52 + c = (n + 1) * 2 ^ 52 + (c - 2 ^ 52) := by
          intro n c h
          omega
        rw [if_pos (by omega), hbits, hEq, show (q + 1075).toNat = (q + 1074).toNat + 1 by omega]
        exact g _ _ hM
    obtain ⟨i1, i2, i3⟩ := hgoal
    rw [join_n hM r2 i1 i2, bs, lN_bits, i3]
  · have hu : u = 0 := by omega
    subst hu
    rw [if_neg (fun hc => h0 ((dcmp_gt hx Pd_0 _).mp hc))]
    obtain ⟨c, q, f1, f2⟩ := hx
    obtain ⟨⟨g1, g2, g3, g4⟩, g5⟩ := fp_fits x f1
    have hc : c = 0 := by
      rcases Nat.mul_eq_zero.mp f2 with h | h
      · exact h
      · have := Nat.two_pow_pos (q + 1074).toNat
        omega
    subst hc
    obtain ⟨e1, e2, -⟩ := fp_bits false (c := 0) (q := q) ⟨g1, g2, g3, g4⟩
    rw [lN_bits, g5, UInt64.toNat_ofNat_of_lt' (by simpa using e2), e1]
    rfl
/-- the model's way -/
theorem toLongBits_n {x : UInt64} {u : Nat} (hx : Pd x u) : f_Jxe99ae_doubleToLongBits_ccdee x = some x.toInt64 := by
  unfold f_Jxe99ae_doubleToLongBits_ccdee f_Jxe99ae_isNaN_b9ae7
  rw [dcmp_n hx hx, if_neg (Nat.lt_irrefl _), if_pos rfl, if_pos rfl, bs, if_pos rfl]
