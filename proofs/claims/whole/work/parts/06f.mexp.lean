/-! MATHEMATICS: what the model's expansions answer -/
theorem Od.push {o : Nat → Int32} {p : List Nat} (h : Od o p) (v : Nat) : Od (upd o p.length (nI v)) (p ++ [v]) := by
  intro i w hw
  unfold upd
  by_cases e : i = p.length
  · subst e
    rw [if_pos rfl]
    rw [List.getElem?_append_right (Nat.le_refl _), Nat.sub_self, List.getElem?_cons_zero] at hw
    rw [Option.some.inj hw]
  · rw [if_neg e]
    have : i < p.length := by
      have := (List.getElem?_eq_some_iff.mp hw).1
      rw [List.length_append] at this
      simp at this
      omega
    rw [List.getElem?_append_left this] at hw
    exact h i w hw
theorem Od.getD {o : Nat → Int32} {p : List Nat} (h : Od o p) {i : Nat} (hi : i < p.length) : o i = nI (p.getD i 0) := by
  refine h i _ ?_
  rw [List.getD_eq_getElem?_getD, List.getElem?_eq_getElem hi]
  rfl
theorem take_n {R : Nat} (hR : R < 128) (a : Nat → Int32) : ∃ a', f_X10_take 7 a (nI R) = some (nI (fl (tb R) 7).length, a') ∧ Od a' (fl (tb R) 7) := by
  unfold f_X10_take
  obtain ⟨y, h1, h2⟩ := lp_cntX (body := f_X10_take_L1 7 (nI R)) (fun j (a : Nat → Int32) => (nI (fl (tb R) j).length, nI j, a)) (fun j a => Od a (fl (tb R) j)) 7 (fun y : Int32 × (Nat → Int32) => y.1 = nI (fl (tb R) 7).length ∧ Od y.2 (fl (tb R) 7)) (fun j a hj hp => by
    have hlen : (fl (tb R) j).length ≤ j := by
      have := List.length_filter_le (tb R) (List.range j)
      rw [List.length_range] at this
      exact this
    rw [f_X10_take_L1, if_neg (by rw [show (7 : Int32) = nI 7 from rfl, nI_leI (by omega) (by omega)]; omega), bit_n R hR j hj]
    by_cases hb : R.testBit j = true
    · rw [if_pos hb, if_pos (by rfl), gd_okI (by omega) (by omega), pl_e, pl_e, pl_e, nI_clamp (by omega)]
      refine ⟨upd a (fl (tb R) j).length (nI j), ?_, ?_⟩
      · rw [fl_succ, if_pos (show tb R j = true from hb), List.length_append, show nI j + (1 : Int32) = nI (j + 1) from nI_add _ _, show nI (fl (tb R) j).length + (1 : Int32) = nI ((fl (tb R) j).length + 1) from nI_add _ _]
        rfl
      · rw [fl_succ, if_pos (show tb R j = true from hb)]
        exact hp.push j
    · rw [if_neg hb, if_neg (by decide), pl_e]
      refine ⟨a, ?_, ?_⟩
      · rw [fl_succ, if_neg (show ¬ tb R j = true from hb), List.append_nil, show nI j + (1 : Int32) = nI (j + 1) from nI_add _ _]
      · rw [fl_succ, if_neg (show ¬ tb R j = true from hb), List.append_nil]
        exact hp) (fun a hp => by
    rw [f_X10_take_L1, if_pos (by decide)]
    exact ⟨_, rfl, rfl, hp⟩) (FU_lt (by omega)) (a := a) (by intro i v h; cases h)
  change lpN _ FU ((0 : Int32), (0 : Int32), a) = _ at h1
  rw [h1, bs]
  obtain ⟨y1, y2⟩ := y
  obtain ⟨rfl, h4⟩ := h2
  exact ⟨y2, rfl, h4⟩
def pL (f : Nat → Int64) : Nat → Int64
  | 0 => 1
  | n + 1 => pL f n * f n
theorem pL_shift (f : Nat → Int64) (n : Nat) : pL f (n + 1) = f 0 * pL (fun k => f (k + 1)) n := by
  induction n with
  | zero => show 1 * f 0 = f 0 * 1; grind
  | succ n ih => rw [pL, ih, pL]; grind
theorem pL_congr {f g : Nat → Int64} {n : Nat} (h : ∀ k, k < n → f k = g k) : pL f n = pL g n := by
  induction n with
  | zero => rfl
  | succ n ih => rw [pL, pL, ih (fun k hk => h k (by omega)), h n (by omega)]
theorem prodL_pL (cell : Nat → Nat → Int64) : ∀ (rs q : List Nat), rs.length = q.length → prodL cell rs q = pL (fun i => cell (rs.getD i 0) (q.getD i 0)) rs.length := by
  intro rs
  induction rs with
  | nil => intro q _; cases q <;> rfl
  | cons r rs ih =>
    intro q h
    cases q with
    | nil => cases h
    | cons a q =>
      rw [List.length_cons, pL_shift, prodL, ih q (by simpa using h)]
      rfl
theorem product_n {z o rt ct : Nat → Int32} {rs cs p : List Nat} {m : Nat} (hm : m ≤ 7) (hrl : rs.length = m) (hcl : cs.length = m) (hpl : p.length = m) (hr7 : ∀ v ∈ rs, v < 7) (hc7 : ∀ v ∈ cs, v < 7) (hpm : ∀ v ∈ p, v < m) (ho : Od o p) (hr : Od rt rs) (hc : Od ct cs) :
    f_X10_product z o rt ct (nI m) = some (prodL (cl z) rs (p.map (fun i => cs.getD i 0))) := by
  unfold f_X10_product
  have hmem : ∀ (l : List Nat) (i : Nat), i < l.length → l.getD i 0 ∈ l := by
    intro l i hi
    rw [List.getD_eq_getElem?_getD, List.getElem?_eq_getElem hi]
    exact List.getElem_mem hi
  have h := lp_cnt (body := f_X10_product_L1 (nI m) z o rt ct) (fun j => pL (fun i => cl z (rs.getD i 0) (cs.getD (p.getD i 0) 0)) j) m (pL (fun i => cl z (rs.getD i 0) (cs.getD (p.getD i 0) 0)) m) (fun j hj => by
    have p1 := hpm _ (hmem p j (by omega))
    have r1 := hr7 _ (hmem rs j (by omega))
    have c1 := hc7 _ (hmem cs (p.getD j 0) (by omega))
    rw [f_X10_product_L1, if_neg (by rw [nI_leI (by omega) (by omega)]; omega), gd_okI (by omega) (by omega), gd_okI (by omega) (by omega), nI_clamp (by omega), ho.getD (by omega), gd_okI (by omega) (by omega), nI_clamp (by omega), hr.getD (by omega), hc.getD (by omega), mat_n r1 c1, bs, pl_e, pl_e, show nI j + (1 : Int32) = nI (j + 1) from nI_add _ _]
    rfl) (by
    rw [f_X10_product_L1, if_pos (by rw [nI_leI (by omega) (by omega)]; omega)]) (by omega)
  change lpN _ FU ((1 : Int64), (0 : Int32)) = _ at h
  rw [h, bs, prodL_pL _ _ _ (by rw [List.length_map]; omega), hrl]
  congr 1
  refine pL_congr (fun k hk => ?_)
  rw [List.getD_eq_getElem?_getD (l := p.map _), List.getElem?_map, List.getElem?_eq_getElem (by omega)]
  rw [List.getD_eq_getElem?_getD (l := p), List.getElem?_eq_getElem (by omega)]
  rfl
/-- 0 or 1 for each entry -/
def mk (z : Nat → Int32) (r a : Nat) : Int64 := if z (7 * r + a) = 0 then 0 else 1
theorem toInt64_toInt (x : Int32) : x.toInt64.toInt = x.toInt := Int32.toInt_toInt64 x
theorem prodL_small {z : Nat → Int32} (hz : ∀ k, k < 49 → -20 ≤ (z k).toInt ∧ (z k).toInt ≤ 20) : ∀ (rs q : List Nat), rs.length ≤ 7 → (∀ v ∈ rs, v < 7) → (∀ v ∈ q, v < 7) → (prodL (cl z) rs q).toInt.natAbs ≤ 20 ^ rs.length ∧ (prodL (mk z) rs q = if (prodL (cl z) rs q).toInt = 0 then 0 else 1) := by
  intro rs
  induction rs with
  | nil => intro q _ _ _; cases q <;> exact ⟨by show (1 : Int64).toInt.natAbs ≤ 1; decide, by show (1 : Int64) = if (1 : Int64).toInt = 0 then 0 else 1; decide⟩
  | cons r rs ih =>
    intro q hl hr hq
    cases q with
    | nil =>
      refine ⟨?_, by show (1 : Int64) = _; rfl⟩
      show (1 : Int64).toInt.natAbs ≤ 20 ^ (rs.length + 1)
      have : 0 < 20 ^ (rs.length + 1) := Nat.pow_pos (by omega)
      show 1 ≤ _
      omega
    | cons a q =>
      obtain ⟨i1, i2⟩ := ih q (by simp at hl; omega) (fun v hv => hr v (List.mem_cons_of_mem _ hv)) (fun v hv => hq v (List.mem_cons_of_mem _ hv))
      have hr1 := hr r List.mem_cons_self
      have hq1 := hq a List.mem_cons_self
      obtain ⟨z1, z2⟩ := hz (7 * r + a) (by omega)
      have hpow : 20 ^ rs.length ≤ 20 ^ 6 := Nat.pow_le_pow_right (by omega) (by simp at hl; omega)
      have hx : (z (7 * r + a)).toInt.natAbs ≤ 20 := by omega
      have hmul : ((z (7 * r + a)).toInt * (prodL (cl z) rs q).toInt).natAbs ≤ 20 * 20 ^ rs.length := by
        rw [Int.natAbs_mul]
        exact Nat.mul_le_mul hx i1
      have hti : (prodL (cl z) (r :: rs) (a :: q)).toInt = (z (7 * r + a)).toInt * (prodL (cl z) rs q).toInt := by
        show (cl z r a * prodL (cl z) rs q).toInt = _
        rw [Int64.toInt_mul]
        show ((z (7 * r + a)).toInt64.toInt * _).bmod (2 ^ 64) = _
        rw [toInt64_toInt]
        refine Int.bmod_eq_of_le ?_ ?_
        · omega
        · omega
      refine ⟨?_, ?_⟩
      · rw [hti, List.length_cons, Nat.pow_succ, Nat.mul_comm (20 ^ _)]
        exact hmul
      · rw [hti]
        show mk z r a * prodL (mk z) rs q = _
        rw [i2]
        unfold mk
        by_cases h1 : z (7 * r + a) = 0
        · rw [if_pos h1, h1, show (0 : Int32).toInt = 0 from rfl, Int.zero_mul, if_pos rfl]
          grind
        · have h1' : (z (7 * r + a)).toInt ≠ 0 := fun hc => h1 (Int32_eq_of hc)
          rw [if_neg h1]
          by_cases h2 : (prodL (cl z) rs q).toInt = 0
          · rw [if_pos h2, h2, Int.mul_zero, if_pos rfl]
            rfl
          · rw [if_neg h2, if_neg (Int.mul_ne_zero h1' h2)]
            rfl
theorem lg_cmp0 (x : Int64) : (lg_cmp x (0 : Int64) = 0) ↔ x.toInt = 0 := by
  unfold lg_cmp
  by_cases h : x = 0
  · subst h
    decide
  · have h' : x.toInt ≠ 0 := fun hc => h (Int64.toInt_inj.mp hc)
    constructor
    · intro hc
      by_cases h2 : x > 0
      · rw [if_pos h2] at hc
        exact absurd hc (by decide)
      · rw [if_neg h2, if_neg h] at hc
        exact absurd hc (by decide)
    · intro hc
      exact absurd hc h'
/-- the entries, or whether they are 0 -/
def cm (b : Bool) (z : Nat → Int32) : Nat → Nat → Int64 := if b then mk z else cl z
theorem prm_range_map {m : Nat} {cs : List Nat} (hl : cs.length = m) (hn : cs.Nodup) : (prm m (List.range m)).map (List.map (fun i => cs.getD i 0)) = prm m cs := by
  have hmap : (List.range m).map (fun i => cs.getD i 0) = cs := by
    refine List.ext_getElem (by simp [hl]) (fun i h1 h2 => ?_)
    rw [List.getElem_map, List.getElem_range, List.getD_eq_getElem?_getD, List.getElem?_eq_getElem h2]
    rfl
  rw [← prm_map, hmap]
  intro x hx y hy he
  have hx' := List.mem_range.mp hx
  have hy' := List.mem_range.mp hy
  rw [List.getD_eq_getElem?_getD, List.getElem?_eq_getElem (by omega), List.getD_eq_getElem?_getD, List.getElem?_eq_getElem (by omega)] at he
  have hpw := List.pairwise_iff_getElem.mp hn
  have he' : cs[x]'(by omega) = cs[y]'(by omega) := he
  rcases Nat.lt_trichotomy x y with h | h | h
  · exact absurd he' (hpw x y (by omega) (by omega) h)
  · exact h
  · exact absurd he'.symm (hpw y x (by omega) (by omega) h)
theorem prm_range_mem {m : Nat} {q : List Nat} (h : q ∈ prm m (List.range m)) : q.length = m ∧ ∀ v ∈ q, v < m := by
  have := prm_perm m _ List.length_range q h
  exact ⟨by rw [this.length_eq, List.length_range], fun v hv => List.mem_range.mp (this.mem_iff.mp hv)⟩
/-- a loop through all orders that looks at what is known of each -/
theorem lp_permF {σ ρ β : Type} {body : σ → Option (σ ⊕ ρ)} {m : Nat} (h7 : m ≤ 7) (R : β → Int32 → (Nat → Int32) → σ) (g : β → List Nat → β) (rb : β → (Nat → Int32) → ρ)
    (hl : ∀ b p o, p.length = m → (∀ v ∈ p, v < m) → Od o p → body (R b 1 o) = (f_X10_nextOrder o (nI m)).bind (fun y => some (.inl (R (g b p) y.1 y.2))))
    (he : ∀ b o, body (R b 0 o) = some (.inr (rb b o))) (b : β) (o : Nat → Int32) (ho : Od o (List.range m)) : ∃ o', lpN body FU (R b 1 o) = some (rb ((prm m (List.range m)).foldl g b) o') := by
  have hs : (List.range m).Pairwise (fun a b => a < b) := List.pairwise_lt_range
  have key : ∀ (L : List (List Nat)) (p z : List Nat), Pth p L z → (∀ q ∈ L, q.length = m ∧ ∀ v ∈ q, v < m) → z.Pairwise (fun a b => b < a) → ∀ (b : β) (o : Nat → Int32) (fuel : Nat), Od o p → L.length < fuel → ∃ o', lpN body fuel (R b 1 o) = some (rb (L.foldl g b) o') := by
    intro L
    induction L with
    | nil => intro p z h; exact h.elim
    | cons a L ih =>
      intro p z h hq hz b o fuel ho hf
      obtain ⟨rfl, h⟩ := h
      obtain ⟨ha1, ha2⟩ := hq a List.mem_cons_self
      have ha3 : ∀ v ∈ a, v < 7 := fun v hv => by
        have := ha2 v hv
        omega
      cases fuel with
      | zero => omega
      | succ f =>
        have hb := hl b a o ha1 ha2 ho
        rcases h with ⟨rfl, rfl⟩ | ⟨q, h1, h2⟩
        · rw [next_last ha1 h7 ha3 ho hz] at hb
          rw [lp_step hb]
          cases f with
          | zero => simp at hf
          | succ f => exact ⟨o, lp_end (he _ o)⟩
        · obtain ⟨o', h3, h4⟩ := next_some ha1 h7 ha3 ho h1
          rw [h3] at hb
          rw [lp_step hb]
          exact ih q z h2 (fun r hr => hq r (List.mem_cons_of_mem _ hr)) hz (g b a) o' f h4 (by simp at hf; omega)
  refine key (prm m (List.range m)) (List.range m) (List.range m).reverse (prm_path m _ List.length_range hs) (fun q hq => prm_range_mem hq) ?_ b o FU ho (FU_lt ?_)
  · rw [List.pairwise_reverse]
    exact hs
  · rw [prm_len m _ List.length_range]
    have := fct_le h7
    omega
theorem sumOfSets_n {z : Nat → Int32} (hz : ∀ k, k < 49 → -20 ≤ (z k).toInt ∧ (z k).toInt ≤ 20) {R C : Nat} (hR : R < 128) (hC : C < 128) (he : pc R = pc C) (b : Bool) (o rt ct : Nat → Int32) :
    ∃ o' rt' ct', f_X10_sumOfSets z o rt ct (nI R) (nI C) (b2i b) = some (Bk (wt false) (cm b z) (fl (tb R) 7) (tb C), o', rt', ct') := by
  have hpR : (fl (tb R) 7).length = pc R := by rw [fl_len]; exact (pcN_cnt R 7).symm
  have hpC : (fl (tb C) 7).length = pc C := by rw [fl_len]; exact (pcN_cnt C 7).symm
  have hm := pc_le R
  unfold f_X10_sumOfSets
  obtain ⟨rt', h1, h2⟩ := take_n hR rt
  obtain ⟨ct', h3, h4⟩ := take_n hC ct
  rw [h1, bs]
  dsimp only
  rw [h3, bs]
  dsimp only
  rw [hpR]
  obtain ⟨o1, h5, h6⟩ := first_n hm o
  rw [h5, bs]
  obtain ⟨o2, h7⟩ := lp_permF (body := f_X10_sumOfSets_L1 (b2i b) (nI (pc R)) z rt' ct') hm (fun (x : Int64) f o => (x, f, o)) (fun x p => x + prodL (cm b z) (fl (tb R) 7) (p.map (fun i => (fl (tb C) 7).getD i 0))) (fun x o => (x, o)) (fun x p o hp1 hp2 ho => by
    have hpr := product_n (z := z) (m := pc R) hm hpR (by rw [hpC, he]) hp1 (fun v hv => (fl_mem.mp hv).1) (fun v hv => (fl_mem.mp hv).1) hp2 ho h2 h4
    rw [f_X10_sumOfSets_L1, if_neg (by decide), hpr, bs]
    cases b with
    | false =>
      rw [if_pos (show b2i false = 0 from rfl), bs, pl_e]
      rfl
    | true =>
      rw [if_neg (show ¬ b2i true = 0 by decide)]
      have hsm := (prodL_small hz (fl (tb R) 7) (p.map (fun i => (fl (tb C) 7).getD i 0)) (by omega) (fun v hv => (fl_mem.mp hv).1) (fun v hv => by
        obtain ⟨i, hi, rfl⟩ := List.mem_map.mp hv
        have hi' := hp2 i hi
        have : (fl (tb C) 7).getD i 0 ∈ fl (tb C) 7 := by
          rw [List.getD_eq_getElem?_getD, List.getElem?_eq_getElem (by omega)]
          exact List.getElem_mem _
        exact (fl_mem.mp this).1)).2
      have e : (if lg_cmp (prodL (cl z) (fl (tb R) 7) (p.map (fun i => (fl (tb C) 7).getD i 0))) (0 : Int64) = 0 then some (0 : Int64) else some (1 : Int64)) = some (prodL (mk z) (fl (tb R) 7) (p.map (fun i => (fl (tb C) 7).getD i 0))) := by
        rw [hsm]
        by_cases hc : (prodL (cl z) (fl (tb R) 7) (p.map (fun i => (fl (tb C) 7).getD i 0))).toInt = 0
        · rw [if_pos hc, if_pos ((lg_cmp0 _).mpr hc)]
        · rw [if_neg hc, if_neg (fun hh => hc ((lg_cmp0 _).mp hh))]
      rw [e, bs, pl_e]
      rfl) (fun x o => by
    rw [f_X10_sumOfSets_L1, if_pos rfl]) (0 : Int64) o1 h6
  rw [h7, bs]
  refine ⟨o2, rt', ct', ?_⟩
  congr 2
  rw [lsum_fold]
  have e1 : lsum (fun p => prodL (cm b z) (fl (tb R) 7) (p.map (fun i => (fl (tb C) 7).getD i 0))) (prm (pc R) (List.range (pc R))) = lsum (fun q => prodL (cm b z) (fl (tb R) 7) q) (prm (pc R) (fl (tb C) 7)) := by
    rw [← prm_range_map (m := pc R) (cs := fl (tb C) 7) (by rw [hpC, he]) (fl_nodup _ _), lsum_map]
  have e2 := prm_sum (wt false) (cm b z) (fun _ => 1) rfl (fun S a q _ _ _ => rfl) (fl (tb R) 7) (tb C) (by rw [hpR, he, ← hpC, fl_len])
  rw [hpR] at e2
  rw [e1, ← e2]
  have e3 : lsum (fun q => 1 * prodL (cm b z) (fl (tb R) 7) q) (prm (pc R) (fl (tb C) 7)) = lsum (fun q => prodL (cm b z) (fl (tb R) 7) q) (prm (pc R) (fl (tb C) 7)) := lsum_congr (fun q _ => by grind)
  rw [e3]
  grind
