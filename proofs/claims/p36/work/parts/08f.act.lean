/-! THE LAW'S METHODS: an act -/
theorem next_c {n y : Nat} (h1 : 1 ≤ n) (hn : n ≤ 7) (hy : y < 2 ^ 31) : ∃ j, 1 ≤ j ∧ j ≤ 7 ∧ (if (nI y - nI y / (4 : Int32) * (4 : Int32)) = 0 then some ((1 : Int32) + ((nI y / (4 : Int32)) - (nI y / (4 : Int32)) / (7 : Int32) * (7 : Int32))) else some (nI n)) = some (nI j) := by
  have e1 : ((nI y / (4 : Int32)) - (nI y / (4 : Int32)) / (7 : Int32) * (7 : Int32)) = nI (y / 4 % 7) := by
    rw [show (4 : Int32) = nI 4 from rfl, n_div y 4 hy (by omega) (by omega)]
    exact n_rem (y / 4) 7 (dlt hy) (by omega) (by omega)
  have h2 : y / 4 % 7 < 7 := Nat.mod_lt _ (by omega)
  rw [e1]
  by_cases e : (nI y - nI y / (4 : Int32) * (4 : Int32)) = 0
  · rw [if_pos e]
    refine ⟨1 + y / 4 % 7, by omega, by omega, ?_⟩
    congr 1
    exact nI_add 1 _
  · rw [if_neg e]
    exact ⟨n, h1, hn, rfl⟩
theorem best_none {n : Nat} {c : Nat → Int32} (h : Mx n c (mkz n (fun _ _ => 0))) (t : Nat → Int32) : ∃ t', f_X9_best (nI n) c t 1 = some (0, t') := by
  have h7 := h.2.1
  obtain ⟨q, t', hq, e⟩ := best_c h t 1
  obtain ⟨q1, q2⟩ := prm_range_mem hq.mem
  rw [if_neg i10, sq_none q 0 (by omega) (fun v hv => by have := q2 v hv; omega)] at e
  exact ⟨t', e⟩
theorem total_none {n : Nat} {c : Nat → Int32} (h : Mx n c (mkz n (fun _ _ => 0))) (hs ln : Int32) : f_X9_total (nI n) c hs ln 1 = some 0 := by
  rw [total1_c h]
  congr 1
theorem act_c {n o c x : Nat} {S : Nat → Int32} {C : Nat → Nat → Int32} {m z : Nat → Int32} (hM : Mx n m z) (hH : Hs o c S C) (hx : x < 2 ^ 31) (ns : Int32) (nc : Nat → Int32) (ms : Int32) (mc : Nat → Int32) (ln : Int32) (t : Nat → Int64) (v : Nat → Int32) :
    ∃ r n' m' ns' nc' ms' mc' o' c' S' C' t' v', f_L_act (nI n) m ns nc ms mc (nI o) (nI c) (S 0) (C 0) (S 1) (C 1) (S 2) (C 2) (S 3) (C 3) ln t v (nI x) = some (r, nI n', m', ns', nc', ms', mc', nI o', nI c', S' 0, C' 0, S' 1, C' 1, S' 2, C' 2, S' 3, C' 3, t', v') ∧ Ac n z c r n' m' o' c' S' C' := by
  have h1 := hM.1
  have h7 := hM.2.1
  have hy : x / 16 < 2 ^ 31 := dlt hx
  have hk : x % 16 < 16 := Nat.mod_lt _ (by omega)
  have e1 : nI x - nI x / (16 : Int32) * (16 : Int32) = nI (x % 16) := n_rem x 16 hx (by omega) (by omega)
  have e2 : nI x / (16 : Int32) = nI (x / 16) := n_div x 16 hx (by omega) (by omega)
  unfold f_L_act
  rw [pl_e, pl_e, e1, e2]
  generalize x % 16 = k at hk
  generalize x / 16 = y at hy
  have hle : ∀ b : Nat, b < 100 → ((nI b ≤ nI k) ↔ b ≤ k) := fun b hb => nI_leI (by omega) (by omega)
  have heq : ∀ b : Nat, b < 100 → ((nI k = nI b) ↔ k = b) := fun b hb => nI_eq (by omega) (by omega)
  by_cases c8 : 8 ≤ k
  · rw [if_pos (show (8 : Int32) ≤ nI k from (hle 8 (by omega)).mpr c8)]
    by_cases c11 : 11 ≤ k
    · rw [if_pos (show (11 : Int32) ≤ nI k from (hle 11 (by omega)).mpr c11)]
      by_cases d11 : k = 11
      · rw [if_pos (show nI k = (11 : Int32) from (heq 11 (by omega)).mpr d11)]
        obtain ⟨r, n', m', ns', nc', ms', mc', o', c', S', C', t', g, hA⟩ := turn_c hM hH hy ns nc ms mc ln t
        rw [g, bs]
        exact ⟨r, n', m', ns', nc', ms', mc', o', c', S', C', t', _, rfl, hA⟩
      · rw [if_neg (show ¬ nI k = (11 : Int32) from fun h => d11 ((heq 11 (by omega)).mp h))]
        by_cases c14 : 14 ≤ k
        · rw [if_pos (show (14 : Int32) ≤ nI k from (hle 14 (by omega)).mpr c14)]
          by_cases d14 : k = 14
          · rw [if_pos (show nI k = (14 : Int32) from (heq 14 (by omega)).mpr d14)]
            obtain ⟨r, n', m', ns', nc', o', c', S', C', v', g, hA⟩ := ladd_c hM hH hy ns nc ln v
            rw [g, bs]
            exact ⟨r, n', m', ns', nc', _, _, o', c', S', C', _, v', rfl, hA⟩
          · rw [if_neg (show ¬ nI k = (14 : Int32) from fun h => d14 ((heq 14 (by omega)).mp h))]
            obtain ⟨j, j1, j7, ej⟩ := next_c h1 h7 hy
            rw [total0_c, bs, ej, bs]
            obtain ⟨nc', o', S', C', m', g1, g2, g3, g4⟩ := clear_c hM hH j1 j7 ns nc
            rw [g1, bs]
            dsimp only
            obtain ⟨t1, p1⟩ := permanent_c g4 t
            rw [PM_none j1] at p1
            obtain ⟨v1, p2⟩ := wholeDiagonals_c g4 v
            rw [WD_none j1 j7] at p2
            obtain ⟨v2, p3⟩ := best_none g4 v1
            obtain ⟨mc1, t2, p4⟩ := nodes_none g4 ms mc t1
            rw [if_pos rfl, total0_c, bs, if_pos rfl, total_none g4, bs, if_pos rfl, p1, bs]
            dsimp only
            rw [if_pos (cmp_eq rfl), p2, bs]
            dsimp only
            rw [if_pos rfl, p3, bs]
            dsimp only
            rw [if_pos rfl, p4, bs]
            dsimp only
            rw [if_pos rfl, tooFew_none g4, bs, if_pos rfl]
            exact ⟨_, j, m', _, _, _, _, o', _, S', C', _, _, rfl, g2, Or.inr ⟨rfl, rfl, ⟨_, g4⟩, g3⟩⟩
        · rw [if_neg (show ¬ (14 : Int32) ≤ nI k from fun h => c14 ((hle 14 (by omega)).mp h))]
          obtain ⟨r, n', m', ns', nc', o', c', S', C', t', g, hA⟩ := mul_c hM hH hy ns nc ln t
          rw [g, bs]
          exact ⟨r, n', m', ns', nc', _, _, o', c', S', C', t', _, rfl, hA⟩
    · rw [if_neg (show ¬ (11 : Int32) ≤ nI k from fun h => c11 ((hle 11 (by omega)).mp h))]
      have eb : ∃ b : Bool, (if nI k = (10 : Int32) then some (1 : Int32) else some (0 : Int32)) = some (b2i b) := by
        by_cases d : nI k = (10 : Int32)
        · exact ⟨true, by rw [if_pos d]; rfl⟩
        · exact ⟨false, by rw [if_neg d]; rfl⟩
      obtain ⟨b, eb⟩ := eb
      rw [eb, bs]
      obtain ⟨r, n', m', ns', nc', o', c', S', C', t', v', g, hA⟩ := exchange_c hM hH hy ns nc ln t v b
      rw [g, bs]
      exact ⟨r, n', m', ns', nc', _, _, o', c', S', C', t', v', rfl, hA⟩
  · rw [if_neg (show ¬ (8 : Int32) ≤ nI k from fun h => c8 ((hle 8 (by omega)).mp h))]
    obtain ⟨r, n', m', ns', nc', o', c', S', C', t', g, hA⟩ := setEntry_c hM hH hy ns nc ln t
    rw [g, bs]
    exact ⟨r, n', m', ns', nc', _, _, o', c', S', C', t', _, rfl, hA⟩
