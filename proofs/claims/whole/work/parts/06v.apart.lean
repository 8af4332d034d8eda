/-! MATHEMATICS: taken apart, one diagonal after the other -/
theorem misWhole49_n {z c o : Nat → Int32} {n : Nat} {p : List Nat} (hz49 : z 49 = nI n) (hn : n ≤ 7) (hl : p.length = n) (hv : ∀ v ∈ p, v < n) (ho : Od o p) : f_X10_isWhole 49 z o c = some (b2i (allB (fun i => nz c (7 * i + p.getD i 0)) n)) := by
  have hmem : ∀ i, i < n → p.getD i 0 < n := fun i hi => getD_mem hl hv hi
  unfold f_X10_isWhole
  have h := lp_cnt (body := f_X10_isWhole_L1 49 z o c) (fun j => b2i (allB (fun i => nz c (7 * i + p.getD i 0)) j)) n (b2i (allB (fun i => nz c (7 * i + p.getD i 0)) n)) (fun j hj => by
    have m1 := hmem j hj
    rw [f_X10_isWhole_L1, gd_t (by decide), mz49 hz49, if_neg (by rw [nI_leI (by omega) (by omega)]; omega)]
    rw [allB]
    cases hb : allB (fun i => nz c (7 * i + p.getD i 0)) j with
    | false =>
      rw [show b2i false = 0 from rfl, if_pos rfl, pl_e, nI_1]
      rfl
    | true =>
      rw [if_neg (show ¬ b2i true = 0 by decide), gd_okI (by omega) (by omega), nI_clamp (by omega), ho.getD (by omega), show ((7 : Int32) * nI j) = nI (7 * j) from pk_mul 7 j, nI_add, gd_okI (by omega) (by omega), nI_clamp (by omega)]
      by_cases hz : c (7 * j + p.getD j 0) = 0
      · rw [if_pos hz, pl_e, nI_1]
        have : nz c (7 * j + p.getD j 0) = false := decide_eq_false (fun h => h hz)
        rw [this]
        rfl
      · rw [if_neg hz, pl_e, nI_1]
        have : nz c (7 * j + p.getD j 0) = true := decide_eq_true hz
        rw [this]
        rfl) (by
    rw [f_X10_isWhole_L1, gd_t (by decide), mz49 hz49, if_pos (by rw [nI_leI (by omega) (by omega)]; omega)]) (by omega)
  change lpN _ FU ((1 : Int32), (0 : Int32)) = _ at h
  rw [h, bs, gd_t]
  cases allB (fun i => nz c (7 * i + p.getD i 0)) n with
  | false => exact Or.inl rfl
  | true => exact Or.inr rfl
/-- the model's search ends at the first whole one -/
theorem search_n {z c : Nat → Int32} {n : Nat} (hz49 : z 49 = nI n) (hn : n ≤ 7) {q : List Nat} (hq0 : ((prm n (List.range n)).filter (whL c 0)).head? = some q) {o1 : Nat → Int32} (ho1 : Od o1 (List.range n)) : ∃ o', lpN (f_X10_apart_L2 z c) FU o1 = some o' ∧ Od o' q := by
  have key : ∀ (L : List (List Nat)) (p zz : List Nat), Pth p L zz → (∀ q ∈ L, q.length = n ∧ ∀ v ∈ q, v < n) → zz.Pairwise (fun a b => b < a) → ∀ (o : Nat → Int32) (fuel : Nat), (L.filter (whL c 0)).head? = some q → Od o p → L.length < fuel → ∃ o', lpN (f_X10_apart_L2 z c) fuel o = some o' ∧ Od o' q := by
    intro L
    induction L with
    | nil => intro p zz h; exact h.elim
    | cons a L ih =>
      intro p zz h hq hz o fuel hhd ho hf
      obtain ⟨rfl, h⟩ := h
      obtain ⟨ha1, ha2⟩ := hq a List.mem_cons_self
      have ha3 : ∀ v ∈ a, v < 7 := fun v hv => by
        have := ha2 v hv
        omega
      cases fuel with
      | zero => omega
      | succ f =>
        have hw := misWhole49_n (c := c) hz49 hn ha1 ha2 ho
        rw [← whL_zero ha1] at hw
        by_cases hwh : whL c 0 a = true
        · rw [List.filter_cons, if_pos hwh, List.head?_cons, Option.some.injEq] at hhd
          rw [hwh] at hw
          refine ⟨o, lp_end ?_, hhd ▸ ho⟩
          rw [f_X10_apart_L2, hw, bs, if_neg (show ¬ b2i true = 0 by decide)]
        · rw [List.filter_cons, if_neg hwh] at hhd
          have hw' : whL c 0 a = false := by simpa using hwh
          rw [hw'] at hw
          rcases h with ⟨rfl, rfl⟩ | ⟨q2, h1, h2⟩
          · cases hhd
          · obtain ⟨o', h3, h4⟩ := next_some ha1 hn ha3 ho h1
            have hbody : f_X10_apart_L2 z c o = some (.inl o') := by
              rw [f_X10_apart_L2, hw, bs, if_pos (show b2i false = 0 by decide), gd_t (by decide), mz49 hz49, h3, bs]
            rw [lp_step hbody]
            exact ih q2 zz h2 (fun r hr => hq r (List.mem_cons_of_mem _ hr)) hz o' f hhd h4 (by simp at hf; omega)
  have hs : (List.range n).Pairwise (fun a b => a < b) := List.pairwise_lt_range
  refine key (prm n (List.range n)) (List.range n) (List.range n).reverse (prm_path n _ List.length_range hs) (fun q hq => prm_range_mem hq) ?_ o1 FU hq0 ho1 (FU_lt ?_)
  · rw [List.pairwise_reverse]
    exact hs
  · rw [prm_len n _ List.length_range]
    have := fct_le hn
    omega
/-- the matrix less v on a diagonal -/
def lessOn (p : List Nat) (n v : Nat) (W : Nat → Nat) : Nat → Nat := fun k => if k / 7 < n ∧ k % 7 = p.getD (k / 7) 0 then W k - v else W k
theorem lessOn_at {p : List Nat} {n v : Nat} {W : Nat → Nat} {r a : Nat} (ha : a < 7) : lessOn p n v W (7 * r + a) = if r < n ∧ a = p.getD r 0 then W (7 * r + a) - v else W (7 * r + a) := by
  unfold lessOn
  rw [show (7 * r + a) / 7 = r by omega, show (7 * r + a) % 7 = a by omega]
theorem nI_sub' {a v : Nat} (h : v ≤ a) : nI a + -nI v = nI (a - v) := by
  rw [← Int32.sub_eq_add_neg]
  exact pk_sub h
theorem subtract_n {W : Nat → Nat} {z c o : Nat → Int32} {n v : Nat} (hz49 : z 49 = nI n) (hn : n ≤ 7) {p : List Nat} (h : p ∈ prm n (List.range n)) (ho : Od o p) (hc : ∀ k, k < 49 → c k = nI (W k)) (hv : ∀ i, i < n → v ≤ W (7 * i + p.getD i 0)) : ∃ c', lpN (f_X10_apart_L3 (nI v) z o) FU ((0 : Int32), c) = some c' ∧ ∀ k, k < 49 → c' k = nI (lessOn p n v W k) := by
  obtain ⟨hl, hm⟩ := prm_range_mem h
  have hb : ∀ i, i < n → p.getD i 0 < n := fun i hi => getD_mem hl hm hi
  obtain ⟨c', e1, e2⟩ := lp_cntE (body := f_X10_apart_L3 (nI v) z o) (fun j w => ∀ r q, r < 7 → q < 7 → w (7 * r + q) = if r < j ∧ q = p.getD r 0 then nI (W (7 * r + q) - v) else nI (W (7 * r + q))) n (fun w => ∀ r q, r < 7 → q < 7 → w (7 * r + q) = if r < n ∧ q = p.getD r 0 then nI (W (7 * r + q) - v) else nI (W (7 * r + q))) (fun j w hj hw => by
    have hbj := hb j hj
    rw [f_X10_apart_L3, gd_t (by decide), mz49 hz49, if_neg (by rw [nI_leI (by omega) (by omega)]; omega), gd_okI (by omega) (by omega), nI_clamp (by omega), ho.getD (by omega), show ((7 : Int32) * nI j) = nI (7 * j) from pk_mul 7 j, nI_add, pl_e, gd_okI (by omega) (by omega), gd_okI (by omega) (by omega), nI_clamp (by omega), pl_e, pl_e, nI_1]
    refine ⟨_, rfl, fun r q hr hq => ?_⟩
    rw [upd_at]
    by_cases ec : r = j ∧ q = p.getD j 0
    · obtain ⟨rfl, rfl⟩ := ec
      rw [if_pos rfl, if_pos ⟨by omega, rfl⟩, hw r _ hr hq, if_neg (by omega)]
      exact pk_sub (hv r hj)
    · rw [if_neg (by omega), hw r q hr hq]
      by_cases ec2 : r < j ∧ q = p.getD r 0
      · rw [if_pos ec2, if_pos ⟨by omega, ec2.2⟩]
      · rw [if_neg ec2, if_neg (fun hc => by
          by_cases e5 : r < j
          · exact ec2 ⟨e5, hc.2⟩
          · have : r = j := by omega
            subst this
            exact ec ⟨rfl, hc.2⟩)]) (fun w hw => by
    rw [f_X10_apart_L3, gd_t (by decide), mz49 hz49, if_pos (by rw [nI_leI (by omega) (by omega)]; omega)]
    exact ⟨w, rfl, hw⟩) c (fun r q hr hq => by
    rw [if_neg (by omega)]
    exact hc _ (by omega)) (by omega)
  refine ⟨c', e1, fun k hk => ?_⟩
  have := e2 (k / 7) (k % 7) (by omega) (Nat.mod_lt _ (by omega))
  rw [show 7 * (k / 7) + k % 7 = k by omega] at this
  rw [this]
  unfold lessOn
  split <;> rfl
theorem decrease_n {W : Nat → Nat} {c : Nat → Int32} {n v : Nat} (h1 : 1 ≤ n) (hn : n ≤ 7) {p : List Nat} (h : p ∈ prm n (List.range n)) (hc : ∀ k, k < 49 → c k = nI (W k)) (hv : ∀ i, i < n → v ≤ W (7 * i + p.getD i 0)) : ∃ c', f_X4_increaseOn (nI n) c (nI (numL p)) (-nI v) = some c' ∧ ∀ k, k < 49 → c' k = nI (lessOn p n v W k) := by
  obtain ⟨hvd, ha, hd⟩ := numL_VD hn h
  obtain ⟨c', e1, e2⟩ := increaseOn_n ha h1 hn hvd c (-nI v)
  refine ⟨c', e1, fun k hk => ?_⟩
  have := e2 (k / 7) (k % 7) (by omega) (Nat.mod_lt _ (by omega))
  rw [show 7 * (k / 7) + k % 7 = k by omega] at this
  rw [this]
  unfold lessOn
  by_cases e : k / 7 < n
  · rw [hd _ (by omega), show n - 1 - (n - 1 - k / 7) = k / 7 by omega]
    by_cases e2 : k % 7 = p.getD (k / 7) 0
    · rw [if_pos ⟨e, e2⟩, if_pos ⟨e, e2⟩, hc k hk]
      have := hv (k / 7) e
      rw [← e2, show 7 * (k / 7) + k % 7 = k by omega] at this
      exact nI_sub' this
    · rw [if_neg (fun hh => e2 hh.2), if_neg (fun hh => e2 hh.2), hc k hk]
  · rw [if_neg (fun hh => e hh.1), if_neg (fun hh => e hh.1), hc k hk]
theorem sN_less {f g : Nat → Nat} {c v : Nat} (hv : v ≤ f c) (hg : ∀ x, g x = if x = c then f x - v else f x) : ∀ n, sN g n = if c < n then sN f n - v else sN f n := by
  intro n
  induction n with
  | zero => rw [if_neg (by omega)]; rfl
  | succ n ih =>
    rw [sN, sN, ih, hg n]
    by_cases e : n = c
    · subst e
      rw [if_neg (Nat.lt_irrefl _), if_pos rfl, if_pos (by omega)]
      omega
    · rw [if_neg e]
      by_cases e2 : c < n
      · rw [if_pos e2, if_pos (by omega)]
        have : f c ≤ sN f n := by
          have key : ∀ m, c < m → f c ≤ sN f m := by
            intro m
            induction m with
            | zero => intro h; omega
            | succ m ihm =>
              intro h
              rw [sN]
              by_cases e3 : c = m
              · subst e3; omega
              · have := ihm (by omega); omega
          exact key n e2
        omega
      · rw [if_neg e2, if_neg (by omega)]
theorem cntB_lt {P Q : Nat → Bool} {N : Nat} (h : ∀ k, k < N → P k = true → Q k = true) (hx : ∃ k, k < N ∧ Q k = true ∧ P k = false) : cntB P N < cntB Q N := by
  have hle : ∀ m, m ≤ N → cntB P m ≤ cntB Q m := by
    intro m
    induction m with
    | zero => intro _; exact Nat.le_refl _
    | succ m ih =>
      intro hm
      rw [cntB, cntB]
      have := ih (by omega)
      have := h m (by omega)
      cases hp : P m with
      | false => cases hq : Q m <;> simp <;> omega
      | true => rw [h m (by omega) hp]; simp; omega
  obtain ⟨k, hk, hq, hp⟩ := hx
  have key : ∀ m, k < m → m ≤ N → cntB P m < cntB Q m := by
    intro m
    induction m with
    | zero => intro h; omega
    | succ m ih =>
      intro h1 h2
      rw [cntB, cntB]
      by_cases e : k = m
      · subst e
        have := hle k (by omega)
        rw [hp, hq]
        simp
        omega
      · have := ih (by omega) (by omega)
        cases hp2 : P m with
        | false => cases hq2 : Q m <;> simp <;> omega
        | true => rw [h m (by omega) hp2]; simp; omega
  exact key N hk (Nat.le_refl _)
/-- what is left: no entry below 0, sums of lines alike -/
def LK (n s : Nat) (W : Nat → Nat) (c : Nat → Int32) : Prop := (∀ k, k < 49 → c k = nI (W k)) ∧ (∀ k, k < 49 → W k ≤ 20) ∧ (∀ r a, r < 7 → a < 7 → (n ≤ r ∨ n ≤ a) → W (7 * r + a) = 0) ∧ (∀ r, r < n → sN (fun a => W (7 * r + a)) n = s) ∧ (∀ a, a < n → sN (fun r => W (7 * r + a)) n = s)
theorem LK_head {n s : Nat} {W : Nat → Nat} {c : Nat → Int32} (hn : n ≤ 7) (h : LK n s W c) (hs : 0 < s) : ∃ p, ((prm n (List.range n)).filter (whL c 0)).head? = some p ∧ p ∈ prm n (List.range n) ∧ ∀ i, i < n → 0 < W (7 * i + p.getD i 0) := by
  obtain ⟨h1, h2, h3, h4, h5⟩ := h
  obtain ⟨q, q1, q2⟩ := whole_ex (w := fun r a => W (7 * r + a)) hs h4 h5
  have hnz : ∀ {q : List Nat}, q ∈ prm n (List.range n) → (whL c 0 q = true ↔ ∀ i, i < n → 0 < W (7 * i + q.getD i 0)) := by
    intro q hq
    obtain ⟨hl, hm⟩ := prm_range_mem hq
    rw [whL_zero hl, allB_t]
    refine forall_congr' fun i => ?_
    refine ⟨fun h hi => ?_, fun h hi => ?_⟩
    · have hb := getD_mem hl hm hi
      have := h hi
      unfold nz at this
      have h9 := of_decide_eq_true this
      rw [h1 _ (by omega)] at h9
      refine Nat.pos_of_ne_zero (fun e => h9 ?_)
      rw [e]
      rfl
    · have hb := getD_mem hl hm hi
      have h9 := h hi
      have h10 := h2 (7 * i + q.getD i 0) (by omega)
      unfold nz
      refine decide_eq_true ?_
      rw [h1 _ (by omega)]
      exact nI_ne0 h9 (by omega)
  have hmem : q ∈ (prm n (List.range n)).filter (whL c 0) := List.mem_filter.mpr ⟨q1, (hnz q1).mpr q2⟩
  cases hL : (prm n (List.range n)).filter (whL c 0) with
  | nil => rw [hL] at hmem; cases hmem
  | cons p L =>
    have hp : p ∈ (prm n (List.range n)).filter (whL c 0) := by rw [hL]; exact List.mem_cons_self
    obtain ⟨p1, p2⟩ := List.mem_filter.mp hp
    exact ⟨p, rfl, p1, (hnz p1).mp p2⟩
theorem LK_less {n s v : Nat} {W : Nat → Nat} {c c' : Nat → Int32} (hn : n ≤ 7) (h : LK n s W c) {p : List Nat} (hp : p ∈ prm n (List.range n)) (hv : ∀ i, i < n → v ≤ W (7 * i + p.getD i 0)) (hc : ∀ k, k < 49 → c' k = nI (lessOn p n v W k)) : LK n (s - v) (lessOn p n v W) c' := by
  obtain ⟨h1, h2, h3, h4, h5⟩ := h
  obtain ⟨hl, hm⟩ := prm_range_mem hp
  have hb : ∀ i, i < n → p.getD i 0 < n := fun i hi => getD_mem hl hm hi
  refine ⟨hc, fun k hk => ?_, fun r a hr ha hx => ?_, fun r hr => ?_, fun a ha => ?_⟩
  · have := h2 k hk
    unfold lessOn
    split <;> omega
  · rw [lessOn_at ha, h3 r a hr ha hx]
    split <;> omega
  · have hbr := hb r hr
    rw [← h4 r hr, sN_congr (g := fun a => if a = p.getD r 0 then W (7 * r + a) - v else W (7 * r + a)) (fun a ha => by
      rw [lessOn_at (by omega)]
      by_cases e : a = p.getD r 0
      · rw [if_pos ⟨hr, e⟩, if_pos e]
      · rw [if_neg (fun hh => e hh.2), if_neg e])]
    have := sN_less (f := fun a => W (7 * r + a)) (g := fun a => if a = p.getD r 0 then W (7 * r + a) - v else W (7 * r + a)) (c := p.getD r 0) (hv r hr) (fun x => rfl) n
    rw [if_pos hbr] at this
    exact this
  · obtain ⟨r, hr, hra⟩ := prm_onto hp ha
    rw [← h5 a ha, sN_congr (g := fun i => if i = r then W (7 * i + a) - v else W (7 * i + a)) (fun i hi => by
      rw [lessOn_at (by omega)]
      by_cases e : i = r
      · rw [if_pos ⟨hi, by rw [e]; exact hra.symm⟩, if_pos e]
      · rw [if_neg (fun hh => e (getD_inj (prm_nodup hp) (by omega) (by omega) (by rw [← hh.2, hra]))), if_neg e])]
    have := sN_less (f := fun i => W (7 * i + a)) (g := fun i => if i = r then W (7 * i + a) - v else W (7 * i + a)) (c := r) (by
      have := hv r hr
      rw [hra] at this
      exact this) (fun x => rfl) n
    rw [if_pos hr] at this
    exact this
theorem LK_nz {n s : Nat} {W : Nat → Nat} {c : Nat → Int32} (h : LK n s W c) {k : Nat} (hk : k < 49) : nz c k = decide (0 < W k) := by
  have := h.2.1 k hk
  unfold nz
  rw [h.1 k hk]
  by_cases e : 0 < W k
  · rw [decide_eq_true e, decide_eq_true (nI_ne0 e (by omega))]
  · rw [decide_eq_false e, show W k = 0 by omega]
    rfl
theorem LK_cnt {n s v : Nat} {W : Nat → Nat} {c c' : Nat → Int32} (hn : n ≤ 7) (h : LK n s W c) {p : List Nat} (hp : p ∈ prm n (List.range n)) (hv : ∀ i, i < n → v ≤ W (7 * i + p.getD i 0)) (h' : LK n (s - v) (lessOn p n v W) c') (hex : ∃ i, i < n ∧ v = W (7 * i + p.getD i 0)) (h0 : 0 < v) : cntB (nz c') 49 < cntB (nz c) 49 := by
  obtain ⟨hl, hm⟩ := prm_range_mem hp
  have hb : ∀ i, i < n → p.getD i 0 < n := fun i hi => getD_mem hl hm hi
  refine cntB_lt (fun k hk hz => ?_) ?_
  · rw [LK_nz h hk]
    rw [LK_nz h' hk] at hz
    have h9 := of_decide_eq_true hz
    refine decide_eq_true ?_
    unfold lessOn at h9
    split at h9 <;> omega
  · obtain ⟨i, hi, e⟩ := hex
    have hbi := hb i hi
    refine ⟨7 * i + p.getD i 0, by omega, ?_, ?_⟩
    · rw [LK_nz h (by omega)]
      exact decide_eq_true (by omega)
    · rw [LK_nz h' (by omega), lessOn_at (by omega), if_pos ⟨hi, rfl⟩]
      exact decide_eq_false (by omega)
theorem LK_zero {n s : Nat} {W : Nat → Nat} {c : Nat → Int32} (hn : n ≤ 7) (h1 : 1 ≤ n) (h : LK n s W c) : s = 0 ↔ cntB (nz c) 49 = 0 := by
  have hle : ∀ (f : Nat → Nat) (m k : Nat), k < m → f k ≤ sN f m := by
    intro f m k hk
    induction m with
    | zero => omega
    | succ m ih =>
      rw [sN]
      by_cases e : k = m
      · subst e; omega
      · have := ih (by omega); omega
  constructor
  · intro hs
    refine cntB_false (fun k hk => ?_)
    rw [LK_nz h hk]
    refine decide_eq_false (fun hh => ?_)
    have hr : k / 7 < n := Decidable.byContradiction fun hc => by
      have := h.2.2.1 (k / 7) (k % 7) (by omega) (by omega) (Or.inl (by omega))
      rw [show 7 * (k / 7) + k % 7 = k by omega] at this
      omega
    have hq : k % 7 < n := Decidable.byContradiction fun hc => by
      have := h.2.2.1 (k / 7) (k % 7) (by omega) (by omega) (Or.inr (by omega))
      rw [show 7 * (k / 7) + k % 7 = k by omega] at this
      omega
    have := h.2.2.2.1 (k / 7) hr
    have h10 := hle (fun a => W (7 * (k / 7) + a)) n (k % 7) hq
    rw [show 7 * (k / 7) + k % 7 = k by omega] at h10
    omega
  · intro hc
    have hz : ∀ k, k < 49 → W k = 0 := by
      intro k hk
      refine Decidable.byContradiction fun hne => ?_
      have h2 : cntB (fun _ => false) 49 < cntB (nz c) 49 := cntB_lt (fun k _ hh => by cases hh) ⟨k, hk, by rw [LK_nz h hk]; exact decide_eq_true (by omega), rfl⟩
      omega
    rw [← h.2.2.2.1 0 (by omega), sN_congr (g := fun _ => 0) (fun a ha => hz _ (by omega)), sN_zero]
theorem LK_s {n s : Nat} {W : Nat → Nat} {c : Nat → Int32} (hn : n ≤ 7) (h1 : 1 ≤ n) (h : LK n s W c) : s ≤ 140 := by
  rw [← h.2.2.2.1 0 (by omega)]
  have := sN_le (f := fun a => W (7 * 0 + a)) (n := n) (c := 20) (fun k hk => h.2.1 _ (by omega))
  have h2 : n * 20 ≤ 7 * 20 := Nat.mul_le_mul_right _ hn
  omega
