/-! MATHEMATICS: the class's diagonals of the greatest sum -/
def PL (n u : Nat) : List (List Nat) := prm (n - pc u) (fl (cs n u) 7)
def HB (n u a : Nat) : List (List Nat) := if cs n u a then (PL n (u ||| 2 ^ a)).map (fun q => a :: q) else []
theorem cs_t {n u a : Nat} : cs n u a = true ↔ a < n ∧ u.testBit a = false := by
  unfold cs
  rw [Bool.and_eq_true]
  constructor
  · intro h; exact ⟨of_decide_eq_true h.1, by simpa using h.2⟩
  · intro h; exact ⟨by simpa using h.1, by simpa using h.2⟩
theorem PL_cat {n u : Nat} (hn : n ≤ 7) (hu : u < 2 ^ n - 1) : PL n u = cat (HB n u) 7 := by
  have hp := pc_below n hn u hu
  unfold PL
  rw [show n - pc u = (n - pc u - 1) + 1 by omega, prm, flat_cat]
  refine cat_congr (fun a ha => ?_)
  unfold HB PL
  by_cases h : cs n u a = true
  · obtain ⟨h2, h3⟩ := cs_t.mp h
    rw [if_pos h, if_pos h, fl_erase, cs_dl, (or_no n hn u (by omega) a h2 h3).2.2, show n - (pc u + 1) = n - pc u - 1 by omega]
  · rw [if_neg h, if_neg h]
theorem PL_mem {n u : Nat} (hn : n ≤ 7) (hu : u < 2 ^ n) {q : List Nat} (h : q ∈ PL n u) : q.length = n - pc u ∧ ∀ v ∈ q, v < 7 := by
  have hl : (fl (cs n u) 7).length = n - pc u := by
    rw [fl_len]
    exact cs_cnt n hn u hu
  have := prm_perm (n - pc u) _ hl q h
  exact ⟨by rw [this.length_eq, hl], fun v hv => (fl_mem.mp (this.mem_iff.mp hv)).1⟩
theorem PL_ne {n u : Nat} (hn : n ≤ 7) (hu : u < 2 ^ n) : PL n u ≠ [] := by
  intro hc
  have h1 := prm_len (n - pc u) (fl (cs n u) 7) (by rw [fl_len]; exact cs_cnt n hn u hu)
  unfold PL at hc
  rw [hc] at h1
  have h2 : ∀ n, n ≤ 7 → 0 < fct n := by decide
  have := h2 (n - pc u) (by omega)
  rw [List.length_nil] at h1
  omega
theorem pc_len {n u : Nat} (hn : n ≤ 7) (hu : u < 2 ^ n) : pc u ≤ n := by
  by_cases e : u = 2 ^ n - 1
  · rw [e, pc_full n hn]
    exact Nat.le_refl _
  · have := pc_below n hn u (by omega)
    omega
theorem PL_bd {z : Nat → Int32} (hz : ∀ k, k < 49 → -20 ≤ (z k).toInt ∧ (z k).toInt ≤ 20) {n u : Nat} (hn : n ≤ 7) (hu : u < 2 ^ n) {q : List Nat} (h : q ∈ PL n u) : -140 ≤ sq z (pc u) q ∧ sq z (pc u) q ≤ 140 := by
  obtain ⟨h1, h2⟩ := PL_mem hn hu h
  have h3 := pc_len hn hu
  have := sq_bd hz q (pc u) (by omega) h2
  omega
theorem HB_bd {z : Nat → Int32} (hz : ∀ k, k < 49 → -20 ≤ (z k).toInt ∧ (z k).toInt ≤ 20) {n u a : Nat} (hn : n ≤ 7) (hu : u < 2 ^ n - 1) (ha : a < 7) {q : List Nat} (h : q ∈ HB n u a) : -140 ≤ sq z (pc u) q ∧ sq z (pc u) q ≤ 140 := by
  refine PL_bd hz hn (by omega) ?_
  rw [PL_cat hn hu]
  have : ∀ m, a < m → q ∈ cat (HB n u) m := by
    intro m
    induction m with
    | zero => intro h; omega
    | succ m ih =>
      intro hm
      rw [cat, List.mem_append]
      by_cases e : a = m
      · subst e; exact Or.inr h
      · exact Or.inl (ih (by omega))
  exact this 7 ha
theorem cat_mem {H : Nat → List (List Nat)} {q : List Nat} : ∀ {m : Nat}, q ∈ cat H m → ∃ a, a < m ∧ q ∈ H a := by
  intro m
  induction m with
  | zero => intro h; cases h
  | succ m ih =>
    intro h
    rw [cat, List.mem_append] at h
    rcases h with h | h
    · obtain ⟨a, h1, h2⟩ := ih h
      exact ⟨a, by omega, h2⟩
    · exact ⟨m, by omega, h⟩
theorem cat_split {H : Nat → List (List Nat)} {c : Nat} : ∀ d, ∃ rest, cat H (c + 1 + d) = cat H c ++ (H c ++ rest) := by
  intro d
  induction d with
  | zero => exact ⟨[], by rw [Nat.add_zero, cat, List.append_nil]⟩
  | succ d ih =>
    obtain ⟨rest, h⟩ := ih
    exact ⟨rest ++ H (c + 1 + d), by rw [← Nat.add_assoc, cat, h]; simp⟩
/-- the table of greatest sums -/
def Tg (z t : Nat → Int32) (n u : Nat) : Prop := ∃ v, FO (PL n u) (sq z (pc u)) v ∧ t u = iI v
theorem through_n {z t : Nat → Int32} (hz : ∀ k, k < 49 → -20 ≤ (z k).toInt ∧ (z k).toInt ≤ 20) {n u a : Nat} (hn : n ≤ 7) (hu : u < 2 ^ n - 1) (ha : a < n) (ht : ∀ v, u < v → v < 2 ^ n → Tg z t n v) : ∃ v, FO (HB n u a) (sq z (pc u)) v ∧ -1000 ≤ v ∧ v ≤ 140 ∧ f_X2_sumThrough t (nI n) z (nI (pc u)) (nI a) (nI u) = some (iI v) := by
  have h7 : 2 ^ n ≤ 128 := two_pow_le hn
  have hp := pc_below n hn u hu
  unfold f_X2_sumThrough
  rw [sh1 a (by omega), nI_or, pl_e]
  cases hb : u.testBit a with
  | true =>
    rw [or_yes u (by omega) a (by omega) hb, if_pos rfl]
    refine ⟨-1000, Or.inl ⟨?_, rfl⟩, by omega, by omega, rfl⟩
    unfold HB
    rw [if_neg (fun hc => by rw [(cs_t.mp hc).2] at hb; cases hb)]
  | false =>
    obtain ⟨o1, o2, o3⟩ := or_no n hn u (by omega) a ha hb
    rw [if_neg (by rw [nI_eq (by omega) (by omega)]; omega), at_n hp ha hn, bs, of2_n (by omega), bs]
    obtain ⟨v, h1, h2⟩ := ht _ o2 o1
    rcases h1 with ⟨h1, _⟩ | ⟨q, h1, rfl⟩
    · exact absurd h1 (PL_ne hn o1)
    · have hH : HB n u a = (PL n (u ||| 2 ^ a)).map (fun q => a :: q) := by
        unfold HB
        rw [if_pos (cs_t.mpr ⟨ha, hb⟩)]
      rw [o3] at h1 h2
      have h3 := FB_map (g := sq z (pc u)) (c := (z (7 * pc u + a)).toInt) (a := a) (fun q => rfl) h1
      have h4 := HB_bd hz hn hu (a := a) (by omega) (q := a :: q) (by rw [hH]; exact h3.mem)
      refine ⟨sq z (pc u) (a :: q), Or.inr ⟨a :: q, by rw [hH]; exact h3, rfl⟩, by omega, by omega, ?_⟩
      rw [h2, sq, ← iI_add, iI_back]
theorem HB_out {n u a : Nat} (h : n ≤ a) : HB n u a = [] := by
  unfold HB
  rw [if_neg (fun hc => by have := (cs_t.mp hc).1; omega)]
theorem cat_out {H : Nat → List (List Nat)} {n m : Nat} (hnm : n ≤ m) (h : ∀ a, n ≤ a → a < m → H a = []) : cat H m = cat H n := by
  obtain ⟨d, rfl⟩ := Nat.exists_eq_add_of_le hnm
  induction d with
  | zero => rfl
  | succ d ih =>
    rw [← Nat.add_assoc, cat, ih (by omega) (fun a h1 h2 => h a h1 (by omega)), h (n + d) (by omega) (by omega), List.append_nil]
theorem findGreatest_n {z : Nat → Int32} (hz : ∀ k, k < 49 → -20 ≤ (z k).toInt ∧ (z k).toInt ≤ 20) {n : Nat} (h1 : 1 ≤ n) (hn : n ≤ 7) (t : Nat → Int32) : ∃ t', f_X2_findGreatestSums t (nI n) z = some t' ∧ ∀ u, u < 2 ^ n → Tg z t' n u := by
  have h7 : 2 ^ n ≤ 128 := two_pow_le hn
  have hp0 : 2 ≤ 2 ^ n := by
    have := Nat.pow_le_pow_right (n := 2) (by omega) h1
    omega
  unfold f_X2_findGreatestSums
  rw [allLines_n n hn, bs, put2_n (by omega), bs, nI_sub1 (by omega), pl_e]
  obtain ⟨t', e1, e2⟩ := lp_cntX (body := f_X2_findGreatestSums_L1 (nI n) z) (fun j (a : Nat → Int32) => (if j < 2 ^ n - 1 then nI (2 ^ n - 1 - 1 - j) else -1, a)) (fun j a => ∀ u, 2 ^ n - 1 - j ≤ u → u < 2 ^ n → Tg z a n u) (2 ^ n - 1) (fun a => ∀ u, u < 2 ^ n → Tg z a n u) (fun j a hj hp => by
    have hu : 2 ^ n - 1 - 1 - j < 2 ^ n - 1 := by omega
    have hpc := pc_below n hn _ hu
    rw [if_pos hj, f_X2_findGreatestSums_L1, if_neg (by
      intro hc
      rw [show (0 : Int32) = nI 0 from rfl, nI_ltI (by omega) (by omega)] at hc
      omega), bitCount_n _ (by omega), bs]
    obtain ⟨x, hin1, hin2⟩ := lp_cntX (body := f_X2_findGreatestSums_L2 (nI (2 ^ n - 1 - 1 - j)) (nI (pc (2 ^ n - 1 - 1 - j))) a (nI n) z) (fun i (x : Int32) => (x, nI i)) (fun i x => ∃ v, FO (cat (HB n (2 ^ n - 1 - 1 - j)) i) (sq z (pc (2 ^ n - 1 - 1 - j))) v ∧ x = iI v ∧ -1000 ≤ v ∧ v ≤ 140) n (fun x => ∃ v, FO (PL n (2 ^ n - 1 - 1 - j)) (sq z (pc (2 ^ n - 1 - 1 - j))) v ∧ x = iI v) (fun i x hi hx => by
      obtain ⟨v, f1, rfl, f2, f3⟩ := hx
      obtain ⟨w, g1, g2, g3, g4⟩ := through_n hz hn hu hi (fun v h1 h2 => hp v (by omega) h2)
      rw [f_X2_findGreatestSums_L2, f_X4_size, bs, if_neg (by rw [nI_leI (by omega) (by omega)]; omega), g4, bs, pl_e, pl_e, nI_1]
      refine ⟨iI (mx v w), ?_, mx v w, ?_, rfl, ?_, ?_⟩
      · congr 3
        unfold mx
        by_cases hc : v < w
        · rw [if_pos hc, if_pos ((iI_lt (by omega) (by omega) (by omega) (by omega)).mpr hc)]
        · rw [if_neg hc, if_neg (fun hh => hc ((iI_lt (by omega) (by omega) (by omega) (by omega)).mp hh))]
      · refine FO_app ?_ ?_ f1 g1
        · intro y hy
          have := HB_bd hz hn hu (by omega) hy
          omega
        · intro y hy
          obtain ⟨b, hb1, hb2⟩ := cat_mem hy
          have := HB_bd hz hn hu (by omega) hb2
          omega
      · unfold mx; split <;> omega
      · unfold mx; split <;> omega) (fun x hx => by
      obtain ⟨v, f1, rfl, f2, f3⟩ := hx
      rw [f_X2_findGreatestSums_L2, f_X4_size, bs, if_pos (by rw [nI_leI (by omega) (by omega)]; omega)]
      refine ⟨_, rfl, v, ?_, rfl⟩
      rw [PL_cat hn hu, cat_out hn (fun a h1 _ => HB_out h1)]
      exact f1) (FU_lt (by omega)) (a := (-1000 : Int32)) ⟨-1000, Or.inl ⟨rfl, rfl⟩, rfl, by omega, by omega⟩
    change lpN _ FU ((-1000 : Int32), (0 : Int32)) = _ at hin1
    obtain ⟨v, f1, f2⟩ := hin2
    rw [hin1, bs, put2_n (by omega), bs, pl_e]
    refine ⟨upd a (2 ^ n - 1 - 1 - j) x, ?_, ?_⟩
    · have e1 : nI (2 ^ n - 1 - 1 - j) + (-1 : Int32) = if j + 1 < 2 ^ n - 1 then nI (2 ^ n - 1 - 1 - (j + 1)) else -1 := by
        by_cases e : j + 1 < 2 ^ n - 1
        · rw [if_pos e, nI_m1 (by omega)]
          congr 1
        · rw [if_neg e, show 2 ^ n - 1 - 1 - j = 0 by omega]
          rfl
      rw [e1]
    · intro u h3 h4
      by_cases e : u = 2 ^ n - 1 - 1 - j
      · refine ⟨v, by rw [e]; exact f1, ?_⟩
        unfold upd
        rw [if_pos e, f2]
      · obtain ⟨v', g1, g2⟩ := hp u (by omega) h4
        refine ⟨v', g1, ?_⟩
        unfold upd
        rw [if_neg e]
        exact g2) (fun a hp => by
    rw [if_neg (by omega), f_X2_findGreatestSums_L1, if_pos (by decide)]
    exact ⟨a, rfl, fun u hu => hp u (by omega) hu⟩) (FU_lt (by omega)) (a := upd t (2 ^ n - 1) 0) (fun u h3 h4 => by
    have : u = 2 ^ n - 1 := by omega
    subst this
    refine ⟨0, Or.inr ⟨[], ⟨[], [], ?_, fun x hx => (by cases hx), fun x hx => (by cases hx)⟩, rfl⟩, ?_⟩
    · unfold PL
      rw [pc_full n hn, Nat.sub_self]
      rfl
    · unfold upd
      rw [if_pos rfl]
      rfl)
  rw [if_pos (by omega)] at e1
  rw [show 2 ^ n - 1 - 1 - 0 = 2 ^ n - 1 - 1 by omega] at e1
  rw [e1, bs]
  exact ⟨t', rfl, e2⟩
