/-! MATHEMATICS: the first diagonal of the greatest sum -/
theorem FB_step {z t : Nat → Int32} (hz : ∀ k, k < 49 → -20 ≤ (z k).toInt ∧ (z k).toInt ≤ 20) {n u : Nat} (hn : n ≤ 7) (hu : u < 2 ^ n - 1) (ht : ∀ v, v < 2 ^ n → Tg z t n v) {q : List Nat} (hq : FB (PL n u) (sq z (pc u)) q) :
    ∃ c q', c < n ∧ q = c :: q' ∧ u.testBit c = false ∧ FB (PL n (u ||| 2 ^ c)) (sq z (pc (u ||| 2 ^ c))) q' ∧ (∃ x, f_X2_sumThrough t (nI n) z (nI (pc u)) (nI c) (nI u) = some x ∧ iI (sq z (pc u) q) ≤ x) ∧ (∀ a, a < c → ∃ x, f_X2_sumThrough t (nI n) z (nI (pc u)) (nI a) (nI u) = some x ∧ ¬ iI (sq z (pc u) q) ≤ x) := by
  have hqb := PL_bd hz hn (by omega) hq.mem
  have hth : ∀ a, a < n → ∃ v, FO (HB n u a) (sq z (pc u)) v ∧ -1000 ≤ v ∧ v ≤ 140 ∧ f_X2_sumThrough t (nI n) z (nI (pc u)) (nI a) (nI u) = some (iI v) := fun a ha => through_n hz hn hu ha (fun v _ hv => ht v hv)
  have hex : ∃ a, a < n ∧ ∃ v, FO (HB n u a) (sq z (pc u)) v ∧ sq z (pc u) q ≤ v := by
    have hm := hq.mem
    rw [PL_cat hn hu] at hm
    obtain ⟨a, ha7, ha⟩ := cat_mem hm
    have han : a < n := by
      by_cases e : n ≤ a
      · rw [HB_out e] at ha
        cases ha
      · omega
    obtain ⟨v, h1, _⟩ := hth a han
    refine ⟨a, han, v, h1, ?_⟩
    rcases h1 with ⟨h1, _⟩ | ⟨p, h1, rfl⟩
    · rw [h1] at ha
      cases ha
    · exact h1.le q ha
  obtain ⟨c, ⟨hc, v, hv, hmv⟩, hmin⟩ := pk_least (fun a => a < n ∧ ∃ v, FO (HB n u a) (sq z (pc u)) v ∧ sq z (pc u) q ≤ v) hex
  have hcs : cs n u c = true := by
    cases h : cs n u c with
    | true => rfl
    | false =>
      have : HB n u c = [] := by
        unfold HB
        rw [if_neg (by rw [h]; decide)]
      rcases hv with ⟨_, rfl⟩ | ⟨p, h1, _⟩
      · omega
      · have := h1.mem
        rw [‹HB n u c = []›] at this
        cases this
  have hb := (cs_t.mp hcs).2
  obtain ⟨o1, o2, o3⟩ := or_no n hn u (by omega) c hc hb
  have hH : HB n u c = (PL n (u ||| 2 ^ c)).map (fun q => c :: q) := by
    unfold HB
    rw [if_pos hcs]
  obtain ⟨qc, hqc⟩ := FB_ex (sq z (pc u + 1)) (PL n (u ||| 2 ^ c)) (PL_ne hn o1)
  have hFB := FB_map (g := sq z (pc u)) (c := (z (7 * pc u + c)).toInt) (a := c) (fun q => rfl) hqc
  rw [← hH] at hFB
  have hvv : v = sq z (pc u) (c :: qc) := FO_uniq hv (Or.inr ⟨c :: qc, hFB, rfl⟩)
  have hall : FB (PL n u) (sq z (pc u)) (c :: qc) := by
    have hle := hq.le
    obtain ⟨rest, hr⟩ := cat_split (H := HB n u) (c := c) (7 - (c + 1))
    rw [show c + 1 + (7 - (c + 1)) = 7 by omega, ← PL_cat hn hu] at hr
    obtain ⟨l1, l2, e, b1, b2⟩ := hFB
    refine ⟨cat (HB n u) c ++ l1, l2 ++ rest, by rw [hr, e]; simp, ?_, ?_⟩
    · intro x hx
      rw [List.mem_append] at hx
      rcases hx with hx | hx
      · obtain ⟨a, ha, hxa⟩ := cat_mem hx
        obtain ⟨w, h1, _⟩ := hth a (by omega)
        have h2 : ¬ sq z (pc u) q ≤ w := fun hh => hmin a ha ⟨by omega, w, h1, hh⟩
        rcases h1 with ⟨h1, _⟩ | ⟨p, h1, rfl⟩
        · rw [h1] at hxa
          cases hxa
        · have := h1.le x hxa
          omega
      · exact b1 x hx
    · intro x hx
      have hxm : x ∈ PL n u := by
        rw [hr, e]
        rw [List.mem_append] at hx
        rcases hx with hx | hx
        · simp [hx]
        · simp [hx]
      have := hle x hxm
      omega
  have heq := FB_uniq hq hall
  refine ⟨c, qc, hc, heq, hb, ?_, ?_, ?_⟩
  · rw [o3]
    exact hqc
  · obtain ⟨w, h1, h2, h3, h4⟩ := hth c hc
    have : w = v := FO_uniq h1 hv
    subst this
    exact ⟨_, h4, (iI_le (by omega) (by omega) (by omega) (by omega)).mpr hmv⟩
  · intro a ha
    obtain ⟨w, h1, h2, h3, h4⟩ := hth a (by omega)
    refine ⟨_, h4, fun hh => ?_⟩
    have := (iI_le (by omega) (by omega) (by omega) (by omega)).mp hh
    exact hmin a ha ⟨by omega, w, h1, this⟩
theorem greatestDiagonal_n {z t : Nat → Int32} (hz : ∀ k, k < 49 → -20 ≤ (z k).toInt ∧ (z k).toInt ≤ 20) {n : Nat} {w : List Nat} (h1 : 1 ≤ n) (hn : n ≤ 7) (ht : ∀ v, v < 2 ^ n → Tg z t n v) (h : FB (PL n 0) (sq z 0) w) : f_X2_diagonalOfGreatestSum t (nI n) z = some (nI (numL w)) := by
  have h7 : 2 ^ n ≤ 128 := two_pow_le hn
  have hp0 : 2 ≤ 2 ^ n := by
    have := Nat.pow_le_pow_right (n := 2) (by omega) h1
    omega
  unfold f_X2_diagonalOfGreatestSum
  obtain ⟨r, e1, e2⟩ := lp_cntX (body := f_X2_diagonalOfGreatestSum_L1 t (nI n) z) (fun j (a : Int32 × Int32) => (a.1, a.2, nI j)) (fun j a => ∃ pr u y, a = (nI (numL pr), nI u) ∧ pc u = j ∧ u < 2 ^ n ∧ FB (PL n u) (sq z (pc u)) y ∧ pr ++ y = w) n (fun r => r = nI (numL w)) (fun j a hj hp => by
    obtain ⟨pr, u, y, rfl, p1, p2, p3, p4⟩ := hp
    have hu : u < 2 ^ n - 1 := by
      by_cases e : u = 2 ^ n - 1
      · subst e
        rw [pc_full n hn] at p1
        omega
      · omega
    obtain ⟨c, y', c1, rfl, c3, c4, ⟨x, c5, c6⟩, c7⟩ := FB_step hz hn hu ht p3
    obtain ⟨o1, o2, o3⟩ := or_no n hn u p2 c c1 c3
    have hm : t u = iI (sq z (pc u) (c :: y')) := by
      obtain ⟨v, g1, g2⟩ := ht u p2
      rw [g2, FO_uniq g1 (Or.inr ⟨_, p3, rfl⟩)]
    rw [p1] at c5 c6 c7 hm
    rw [f_X2_diagonalOfGreatestSum_L1, f_X4_size, bs, if_neg (by rw [nI_leI (by omega) (by omega)]; omega)]
    have hin := lp_run (body := f_X2_diagonalOfGreatestSum_L2 (nI u) (nI j) t (nI n) z) (fun a => nI a) c (nI c) (fun a ha => by
      obtain ⟨x', d1, d2⟩ := c7 a ha
      rw [f_X2_diagonalOfGreatestSum_L2, f_X4_size, bs, nI_sub1 (by omega), if_neg (by rw [nI_leI (by omega) (by omega)]; omega), d1, bs, of2_n (by omega), bs, hm, if_neg d2, pl_e, nI_1]) (by
      rw [f_X2_diagonalOfGreatestSum_L2, f_X4_size, bs]
      by_cases hq : nI n - (1 : Int32) ≤ nI c
      · rw [if_pos hq]
      · rw [if_neg hq, c5, bs, of2_n (by omega), bs, hm, if_pos c6]) (FU_lt (by omega))
    change lpN _ FU (0 : Int32) = _ at hin
    rw [hin, bs, pl_e, pl_e, pl_e, sh1 c (by omega), nI_or, nI_1, show (10 : Int32) = nI 10 from rfl, show nI (numL pr) * nI 10 = nI (numL pr * 10) from pk_mul _ _, nI_add]
    refine ⟨(nI (numL (pr ++ [c])), nI (u ||| 2 ^ c)), ?_, pr ++ [c], u ||| 2 ^ c, y', rfl, by rw [o3, p1], o1, c4, ?_⟩
    · rw [numL_push, Nat.mul_comm]
    · rw [← p4]
      simp) (fun a hp => by
    obtain ⟨pr, u, y, rfl, p1, p2, p3, p4⟩ := hp
    rw [f_X2_diagonalOfGreatestSum_L1, f_X4_size, bs, if_pos (by rw [nI_leI (by omega) (by omega)]; omega)]
    refine ⟨_, rfl, ?_⟩
    have hy2 : y = [] := by
      have := (PL_mem hn p2 p3.mem).1
      rw [p1, Nat.sub_self] at this
      exact List.length_eq_zero_iff.mp this
    rw [hy2, List.append_nil] at p4
    rw [p4]) (FU_lt (by omega)) (a := (nI 0, nI 0)) ⟨[], 0, w, rfl, rfl, by omega, h, rfl⟩
  change lpN _ FU ((0 : Int32), (0 : Int32), (0 : Int32)) = _ at e1
  rw [e1, bs, e2]
theorem sq_congr {c z : Nat → Int32} (h : ∀ k, k < 49 → c k = z k) : ∀ (q : List Nat) (r : Nat), r + q.length ≤ 7 → (∀ v ∈ q, v < 7) → sq c r q = sq z r q := by
  intro q
  induction q with
  | nil => intro r _ _; rfl
  | cons a q ih =>
    intro r hr hq
    rw [List.length_cons] at hr
    have := hq a List.mem_cons_self
    rw [sq, sq, h _ (by omega), ih (r + 1) (by omega) (fun v hv => hq v (List.mem_cons_of_mem _ hv))]
theorem FB_congr {L : List (List Nat)} {f g : List Nat → Int} {q : List Nat} (h : ∀ x ∈ L, f x = g x) (hq : FB L f q) : FB L g q := by
  obtain ⟨l1, l2, rfl, h1, h2⟩ := hq
  have e := h q (by simp)
  refine ⟨l1, l2, rfl, fun x hx => ?_, fun x hx => ?_⟩
  · rw [← h x (by simp [hx]), ← e]
    exact h1 x hx
  · rw [← h x (by simp [hx]), ← e]
    exact h2 x hx
