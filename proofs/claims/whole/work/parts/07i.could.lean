theorem ob_lt {r : Int32} (h : r = -1 ∨ ∃ k, k ≤ 5 ∧ r = nI k) : ∃ m, m < 128 ∧ ob r = nI m := by
  rcases h with rfl | ⟨k, hk, rfl⟩
  · exact ⟨64, by decide, by decide⟩
  · refine ⟨2 ^ k, ?_, ?_⟩
    · have := Nat.pow_le_pow_right (show 0 < 2 by decide) hk
      omega
    · unfold ob
      rw [if_neg (nIm1 (by omega)), p2w k (by omega)]
theorem oz_lt {b : Nat → Bool} {u : Nat → Int32} (h : ∀ w, ∃ m, m < 128 ∧ u w = nI m) : ∀ n, ∃ m, m < 128 ∧ oz b u n = nI m
  | 0 => ⟨0, by decide, rfl⟩
  | n + 1 => by
    obtain ⟨m1, h1, e1⟩ := oz_lt h n (b := b)
    obtain ⟨m2, h2, e2⟩ := h n
    rw [oz]
    by_cases c : b n = true
    · rw [if_pos c, e1, e2, fa_or]
      exact ⟨_, Nat.or_lt_two_pow (n := 7) h1 h2, rfl⟩
    · rw [if_neg c, e1]
      exact ⟨m1, h1, rfl⟩
/-- all ways, with both -/
theorem Inv.ways {σ : gSt} (h : Inv σ) (day known : Int32) {p nq : Nat} (hq : σ 102 1 = nI nq) (hqb : nq ≤ 10) (hp : p < nq) : ∃ (nd : Nat) (d : Nat → Nat) (u : Nat → Int32), nd ≤ 8 ∧ (∀ k, k < nd → d k < 24) ∧ (∀ w, ∃ m, m < 128 ∧ u w = nI m) ∧ M_X1_countDoubted σ = some (nI nd, σ) ∧
    (∃ σ1 σ2, M_X7_prepare (nI p) day known σ = some (0, σ1) ∧ M_X7_tryAllWays σ1 = some (oz (fun _ => true) u (2 ^ nd), σ2) ∧ (∀ k, k < 85 ∨ 91 < k → σ2 k = σ k) ∧ σ2 85 8 = nI nd ∧ (∀ k, k < nd → σ2 89 k = nI (d k)) ∧ (∀ k, k < nd → σ2 90 k = oz (z0 k) u (2 ^ nd) ∧ σ2 91 k = oz (z1 k) u (2 ^ nd))) ∧
    (∀ σ', σ' 102 = σ 102 → ∃ σ'', (∀ q, q ≠ 101 → q ≠ 107 → q ≠ 108 → q ≠ 109 → σ'' q = σ' q) ∧ (∀ j, j ≠ 7 → j ≠ 9 → σ'' 101 j = σ' 101 j) ∧ (∀ k, k < nd → σ'' 108 k = nI (d k)) ∧ (∀ w, w < 2 ^ nd → σ'' 109 w = u w) ∧ M_X10_findOutcomes (nI p) day known σ' = some (nI nd, σ'')) := by
  obtain ⟨nf, c, m2, b2, c8, hc, d1, -⟩ := h.cnt
  obtain ⟨np, nq', nf', nl, no, hR, hC, hX, ⟨k0, k1, k2, k3, k4⟩, ⟨m0, m1, m2', m3, m4⟩, ⟨b0, b1, b2', b3, b4⟩⟩ := h.nums
  have : nf' = nf := (nI_eq (by omega) (by omega)).mp (m2'.symm.trans m2)
  subst this
  obtain ⟨gl, cc, o, g0, g10, c0, hcq, hr, ⟨σ1, q1, f1, e7, e87, ho⟩, rf⟩ := h.reck day known hq hqb hp
  have hc' : c = dc (σ 102) nf' := hc
  obtain ⟨d, hd⟩ := Dl.mk (N := σ 102) (nf := nf') (by omega)
  rw [← hc'] at hd
  have hrs : ∀ m, o m (tl (o m) (gl - 1)) = -1 ∨ ∃ k, k ≤ 5 ∧ o m (tl (o m) (gl - 1)) = nI k := fun m => hr m _ (by have := tl_le (o m) (gl - 1); omega)
  obtain ⟨σ2, t1, t2, t3, t4, t5⟩ := e7_tryAllWays (σ := σ1) (N := σ 102) (nf := nf') (nd := c) (d := d) (rs := fun m => o m (tl (o m) (gl - 1))) (by rw [f1 17 (by omega)]; exact k2) b2 (fun j hj => by rw [f1 25 (by omega)]; exact hC.get0 25 297 24 (by decide) hj) hd (fun m σ' hs h7 => e7_settled g0 g10 (h7.trans e7) (fun t ht => ho m t ht σ' hs))
  refine ⟨c, d, fun w => ob (o (mk d c (nI w)) (tl (o (mk d c (nI w))) (gl - 1))), c8, fun k hk => by have := (hd.2.2 k hk).1; omega, fun w => ob_lt (hrs _), d1, ⟨σ1, σ2, q1, t5, fun k hk => (t1 k (by omega) (by omega) (by omega) (by omega)).trans (f1 k (by omega)), t2, t3, t4⟩, ?_⟩
  intro σ' e
  refine e10_findOutcomes (σ := σ') (nf := nf') (nd := c) (d := d) (rs := fun m => o m (tl (o m) (gl - 1))) (nI p) day known (by rw [e]; exact m2) b2 (by rw [e]; exact hd) hrs (fun σ'' e' => ?_)
  obtain ⟨σ3, r1, r2, -, r4⟩ := (rf σ'' (e'.trans e)).2
  exact ⟨σ3, r1, r2, r4⟩
theorem l_co {σ : gSt} {u : Nat → Int32} {nd : Nat} (a1 a2 a3 : Int32) (h8 : nd ≤ 8) (e109 : ∀ w, w < 2 ^ nd → σ 109 w = u w) {K : Int32 → Int32 → gSt → gO} : ∀ (m i n : Nat), i + m = 2 ^ nd → m < n → L6_X10_could (nI nd) a1 a2 a3 n (nI i) (oz (fun _ => true) u i) σ K = K (nI (2 ^ nd)) (oz (fun _ => true) u (2 ^ nd)) σ := by
  have hp := p2b nd h8
  intro m
  induction m with
  | zero =>
    intro i n hi hn
    obtain ⟨n, rfl⟩ : ∃ k, n = k + 1 := ⟨n - 1, by omega⟩
    have e : i = 2 ^ nd := by omega
    subst e
    rw [L6_X10_could, p2w nd h8, if_pos (nI_le (Nat.le_refl _) (by omega))]
  | succ m ih =>
    intro i n hi hn
    obtain ⟨n, rfl⟩ : ∃ k, n = k + 1 := ⟨n - 1, by omega⟩
    rw [L6_X10_could, p2w nd h8, if_neg (nle (by omega) (by omega)), gIx_n (by omega) (by omega), gNm_e, gNm_e, nI_tn (by omega), nI_1, e109 i (by omega)]
    have := ih (i + 1) n (by omega) (by omega)
    rw [oz, if_pos rfl] at this
    exact this
theorem Scr.of2 {σ σ1 : gSt} (h : ∀ k, k < 85 ∨ 91 < k → σ1 k = σ k) : Scr σ σ1 := ⟨fun k hk => h k (by omega), by rw [h 101 (by omega)], by rw [h 101 (by omega)]⟩
theorem Scr.out {σ σ' : gSt} (f : ∀ q, q ≠ 101 → q ≠ 107 → q ≠ 108 → q ≠ 109 → σ' q = σ q) (f2 : ∀ j, j ≠ 7 → j ≠ 9 → σ' 101 j = σ 101 j) : Scr σ σ' := ⟨fun k hk => f k (by omega) (by omega) (by omega) (by omega), f2 2 (by decide) (by decide), f2 3 (by decide) (by decide)⟩
theorem t_could (a1 a2 a3 : Int32) {σ : gSt} (h : Inv σ) : Agr (M_X9_could a1 a2 a3) (M_X10_could a1 a2 a3) σ := by
  obtain ⟨np, nq, nf, nl, no, hR, hC, hX, ⟨k0, k1, k2, k3, k4⟩, ⟨m0, m1, m2, m3, m4⟩, ⟨b0, b1, b2, b3, b4⟩⟩ := h.nums
  rcases ix_or a1 (n := nq) (by omega) with ⟨p, hp, rfl⟩ | v1
  rotate_left
  · exact Agr.find h (-100001) (by simp (disch := omega) [M_X9_could, ↓gBd_s, ↓gNm_e, ↓b9_within, ↓b10_within, ↓b9_isDay, ↓b10_isDay, ↓b9_isWeek, ↓b10_isWeek, ↓b9_isSheet, ↓b10_isSheet, ↓b9_finding, ↓b10_finding, ↓b4_has, ↓b5_has, ↓b1_has, ↓b2_has, ↓b3_has, ↓b10_isParishU, ↓b10_isPersonU, ↓b10_isOrderU, ↓gIx_c0, ↓gIx_c1, ↓gIx_c2, ↓gIx_c3, ↓gIx_c4, ↓gIx_c5, ↓gIx_c6, ↓gIx_n, ↓gx_7, ↓gx_13, ↓gx_49, ↓gx_59, ↓gx_69, ↓gx_79, ↓gx_89, ↓gx_99, ↓gx_109, ↓gx_119, ↓gx_129, ↓gx_153, ↓gx_177, ↓gx_201, ↓gx_225, ↓gx_249, ↓gx_273, ↓gx_297, ↓gx_321, ↓gx_333, ↓gx_345, ↓gx_357, ↓gx_369, ↓gx_389, ↓gx_409, ↓gx_429, ↓gx_449, ↓gx_469, ↓gx_489, ↓gx_5, ↓ite_bz, e9_within, e10_within, e9_isDay, e10_isDay, e9_isWeek, e10_isWeek, e9_isSheet, e10_isSheet, e9_finding, e10_finding, e4_has, e5_has, e1_has, e2_has, e3_has, e10_isParishU, e10_isPersonU, e10_isOrderU, le_p, tn0, tn1, tn2, tn3, tn4, tn5, tn6, gUp_n, gUp_s, upd_s, upd_n, nI_add, nI_1, nI_tn, nI_p1, if_true, if_false, bz0, not_true_eq_false, not_false_eq_true, true_and, and_true, ne_eq, and_self, li_7, li_13, li_49, li_59, li_69, li_79, li_89, li_99, li_109, li_119, li_129, li_153, li_177, li_201, li_225, li_249, li_273, li_297, li_321, li_333, li_345, li_357, li_369, li_389, li_409, li_429, li_449, li_469, li_489, li_5, lm_6, lm_20, lm_60, lm_4, ↓b9_canReckon, ↓b10_canAsk, k0, k1, k2, k3, k4, m0, m1, m2, m3, m4, v1]) (by simp (disch := omega) [M_X10_could, ↓gBd_s, ↓gNm_e, ↓b9_within, ↓b10_within, ↓b9_isDay, ↓b10_isDay, ↓b9_isWeek, ↓b10_isWeek, ↓b9_isSheet, ↓b10_isSheet, ↓b9_finding, ↓b10_finding, ↓b4_has, ↓b5_has, ↓b1_has, ↓b2_has, ↓b3_has, ↓b10_isParishU, ↓b10_isPersonU, ↓b10_isOrderU, ↓gIx_c0, ↓gIx_c1, ↓gIx_c2, ↓gIx_c3, ↓gIx_c4, ↓gIx_c5, ↓gIx_c6, ↓gIx_n, ↓gx_7, ↓gx_13, ↓gx_49, ↓gx_59, ↓gx_69, ↓gx_79, ↓gx_89, ↓gx_99, ↓gx_109, ↓gx_119, ↓gx_129, ↓gx_153, ↓gx_177, ↓gx_201, ↓gx_225, ↓gx_249, ↓gx_273, ↓gx_297, ↓gx_321, ↓gx_333, ↓gx_345, ↓gx_357, ↓gx_369, ↓gx_389, ↓gx_409, ↓gx_429, ↓gx_449, ↓gx_469, ↓gx_489, ↓gx_5, ↓ite_bz, e9_within, e10_within, e9_isDay, e10_isDay, e9_isWeek, e10_isWeek, e9_isSheet, e10_isSheet, e9_finding, e10_finding, e4_has, e5_has, e1_has, e2_has, e3_has, e10_isParishU, e10_isPersonU, e10_isOrderU, le_p, tn0, tn1, tn2, tn3, tn4, tn5, tn6, gUp_n, gUp_s, upd_s, upd_n, nI_add, nI_1, nI_tn, nI_p1, if_true, if_false, bz0, not_true_eq_false, not_false_eq_true, true_and, and_true, ne_eq, and_self, li_7, li_13, li_49, li_59, li_69, li_79, li_89, li_99, li_109, li_119, li_129, li_153, li_177, li_201, li_225, li_249, li_273, li_297, li_321, li_333, li_345, li_357, li_369, li_389, li_409, li_429, li_449, li_469, li_489, li_5, lm_6, lm_20, lm_60, lm_4, ↓b9_canReckon, ↓b10_canAsk, k0, k1, k2, k3, k4, m0, m1, m2, m3, m4, v1])
  have v1 := ix_ok hp (by omega)
  by_cases w2 : 0 ≤ a2 ∧ a2 ≤ 9999
  rotate_left
  · exact Agr.find h (-100001) (by simp (disch := omega) [M_X9_could, ↓gBd_s, ↓gNm_e, ↓b9_within, ↓b10_within, ↓b9_isDay, ↓b10_isDay, ↓b9_isWeek, ↓b10_isWeek, ↓b9_isSheet, ↓b10_isSheet, ↓b9_finding, ↓b10_finding, ↓b4_has, ↓b5_has, ↓b1_has, ↓b2_has, ↓b3_has, ↓b10_isParishU, ↓b10_isPersonU, ↓b10_isOrderU, ↓gIx_c0, ↓gIx_c1, ↓gIx_c2, ↓gIx_c3, ↓gIx_c4, ↓gIx_c5, ↓gIx_c6, ↓gIx_n, ↓gx_7, ↓gx_13, ↓gx_49, ↓gx_59, ↓gx_69, ↓gx_79, ↓gx_89, ↓gx_99, ↓gx_109, ↓gx_119, ↓gx_129, ↓gx_153, ↓gx_177, ↓gx_201, ↓gx_225, ↓gx_249, ↓gx_273, ↓gx_297, ↓gx_321, ↓gx_333, ↓gx_345, ↓gx_357, ↓gx_369, ↓gx_389, ↓gx_409, ↓gx_429, ↓gx_449, ↓gx_469, ↓gx_489, ↓gx_5, ↓ite_bz, e9_within, e10_within, e9_isDay, e10_isDay, e9_isWeek, e10_isWeek, e9_isSheet, e10_isSheet, e9_finding, e10_finding, e4_has, e5_has, e1_has, e2_has, e3_has, e10_isParishU, e10_isPersonU, e10_isOrderU, le_p, tn0, tn1, tn2, tn3, tn4, tn5, tn6, gUp_n, gUp_s, upd_s, upd_n, nI_add, nI_1, nI_tn, nI_p1, if_true, if_false, bz0, not_true_eq_false, not_false_eq_true, true_and, and_true, ne_eq, and_self, li_7, li_13, li_49, li_59, li_69, li_79, li_89, li_99, li_109, li_119, li_129, li_153, li_177, li_201, li_225, li_249, li_273, li_297, li_321, li_333, li_345, li_357, li_369, li_389, li_409, li_429, li_449, li_469, li_489, li_5, lm_6, lm_20, lm_60, lm_4, ↓b9_canReckon, ↓b10_canAsk, k0, k1, k2, k3, k4, m0, m1, m2, m3, m4, v1, w2]) (by simp (disch := omega) [M_X10_could, ↓gBd_s, ↓gNm_e, ↓b9_within, ↓b10_within, ↓b9_isDay, ↓b10_isDay, ↓b9_isWeek, ↓b10_isWeek, ↓b9_isSheet, ↓b10_isSheet, ↓b9_finding, ↓b10_finding, ↓b4_has, ↓b5_has, ↓b1_has, ↓b2_has, ↓b3_has, ↓b10_isParishU, ↓b10_isPersonU, ↓b10_isOrderU, ↓gIx_c0, ↓gIx_c1, ↓gIx_c2, ↓gIx_c3, ↓gIx_c4, ↓gIx_c5, ↓gIx_c6, ↓gIx_n, ↓gx_7, ↓gx_13, ↓gx_49, ↓gx_59, ↓gx_69, ↓gx_79, ↓gx_89, ↓gx_99, ↓gx_109, ↓gx_119, ↓gx_129, ↓gx_153, ↓gx_177, ↓gx_201, ↓gx_225, ↓gx_249, ↓gx_273, ↓gx_297, ↓gx_321, ↓gx_333, ↓gx_345, ↓gx_357, ↓gx_369, ↓gx_389, ↓gx_409, ↓gx_429, ↓gx_449, ↓gx_469, ↓gx_489, ↓gx_5, ↓ite_bz, e9_within, e10_within, e9_isDay, e10_isDay, e9_isWeek, e10_isWeek, e9_isSheet, e10_isSheet, e9_finding, e10_finding, e4_has, e5_has, e1_has, e2_has, e3_has, e10_isParishU, e10_isPersonU, e10_isOrderU, le_p, tn0, tn1, tn2, tn3, tn4, tn5, tn6, gUp_n, gUp_s, upd_s, upd_n, nI_add, nI_1, nI_tn, nI_p1, if_true, if_false, bz0, not_true_eq_false, not_false_eq_true, true_and, and_true, ne_eq, and_self, li_7, li_13, li_49, li_59, li_69, li_79, li_89, li_99, li_109, li_119, li_129, li_153, li_177, li_201, li_225, li_249, li_273, li_297, li_321, li_333, li_345, li_357, li_369, li_389, li_409, li_429, li_449, li_469, li_489, li_5, lm_6, lm_20, lm_60, lm_4, ↓b9_canReckon, ↓b10_canAsk, k0, k1, k2, k3, k4, m0, m1, m2, m3, m4, v1, w2])
  by_cases w3 : 0 ≤ a3 ∧ a3 ≤ 9999
  rotate_left
  · exact Agr.find h (-100001) (by simp (disch := omega) [M_X9_could, ↓gBd_s, ↓gNm_e, ↓b9_within, ↓b10_within, ↓b9_isDay, ↓b10_isDay, ↓b9_isWeek, ↓b10_isWeek, ↓b9_isSheet, ↓b10_isSheet, ↓b9_finding, ↓b10_finding, ↓b4_has, ↓b5_has, ↓b1_has, ↓b2_has, ↓b3_has, ↓b10_isParishU, ↓b10_isPersonU, ↓b10_isOrderU, ↓gIx_c0, ↓gIx_c1, ↓gIx_c2, ↓gIx_c3, ↓gIx_c4, ↓gIx_c5, ↓gIx_c6, ↓gIx_n, ↓gx_7, ↓gx_13, ↓gx_49, ↓gx_59, ↓gx_69, ↓gx_79, ↓gx_89, ↓gx_99, ↓gx_109, ↓gx_119, ↓gx_129, ↓gx_153, ↓gx_177, ↓gx_201, ↓gx_225, ↓gx_249, ↓gx_273, ↓gx_297, ↓gx_321, ↓gx_333, ↓gx_345, ↓gx_357, ↓gx_369, ↓gx_389, ↓gx_409, ↓gx_429, ↓gx_449, ↓gx_469, ↓gx_489, ↓gx_5, ↓ite_bz, e9_within, e10_within, e9_isDay, e10_isDay, e9_isWeek, e10_isWeek, e9_isSheet, e10_isSheet, e9_finding, e10_finding, e4_has, e5_has, e1_has, e2_has, e3_has, e10_isParishU, e10_isPersonU, e10_isOrderU, le_p, tn0, tn1, tn2, tn3, tn4, tn5, tn6, gUp_n, gUp_s, upd_s, upd_n, nI_add, nI_1, nI_tn, nI_p1, if_true, if_false, bz0, not_true_eq_false, not_false_eq_true, true_and, and_true, ne_eq, and_self, li_7, li_13, li_49, li_59, li_69, li_79, li_89, li_99, li_109, li_119, li_129, li_153, li_177, li_201, li_225, li_249, li_273, li_297, li_321, li_333, li_345, li_357, li_369, li_389, li_409, li_429, li_449, li_469, li_489, li_5, lm_6, lm_20, lm_60, lm_4, ↓b9_canReckon, ↓b10_canAsk, k0, k1, k2, k3, k4, m0, m1, m2, m3, m4, v1, w2, w3]) (by simp (disch := omega) [M_X10_could, ↓gBd_s, ↓gNm_e, ↓b9_within, ↓b10_within, ↓b9_isDay, ↓b10_isDay, ↓b9_isWeek, ↓b10_isWeek, ↓b9_isSheet, ↓b10_isSheet, ↓b9_finding, ↓b10_finding, ↓b4_has, ↓b5_has, ↓b1_has, ↓b2_has, ↓b3_has, ↓b10_isParishU, ↓b10_isPersonU, ↓b10_isOrderU, ↓gIx_c0, ↓gIx_c1, ↓gIx_c2, ↓gIx_c3, ↓gIx_c4, ↓gIx_c5, ↓gIx_c6, ↓gIx_n, ↓gx_7, ↓gx_13, ↓gx_49, ↓gx_59, ↓gx_69, ↓gx_79, ↓gx_89, ↓gx_99, ↓gx_109, ↓gx_119, ↓gx_129, ↓gx_153, ↓gx_177, ↓gx_201, ↓gx_225, ↓gx_249, ↓gx_273, ↓gx_297, ↓gx_321, ↓gx_333, ↓gx_345, ↓gx_357, ↓gx_369, ↓gx_389, ↓gx_409, ↓gx_429, ↓gx_449, ↓gx_469, ↓gx_489, ↓gx_5, ↓ite_bz, e9_within, e10_within, e9_isDay, e10_isDay, e9_isWeek, e10_isWeek, e9_isSheet, e10_isSheet, e9_finding, e10_finding, e4_has, e5_has, e1_has, e2_has, e3_has, e10_isParishU, e10_isPersonU, e10_isOrderU, le_p, tn0, tn1, tn2, tn3, tn4, tn5, tn6, gUp_n, gUp_s, upd_s, upd_n, nI_add, nI_1, nI_tn, nI_p1, if_true, if_false, bz0, not_true_eq_false, not_false_eq_true, true_and, and_true, ne_eq, and_self, li_7, li_13, li_49, li_59, li_69, li_79, li_89, li_99, li_109, li_119, li_129, li_153, li_177, li_201, li_225, li_249, li_273, li_297, li_321, li_333, li_345, li_357, li_369, li_389, li_409, li_429, li_449, li_469, li_489, li_5, lm_6, lm_20, lm_60, lm_4, ↓b9_canReckon, ↓b10_canAsk, k0, k1, k2, k3, k4, m0, m1, m2, m3, m4, v1, w2, w3])
  have ca : (0 ≤ nI p ∧ nI p < nI nq) ∧ (0 ≤ a2 ∧ a2 ≤ 9999) ∧ (0 ≤ a3 ∧ a3 ≤ 9999) := ⟨⟨v1.1, v1.2.1⟩, w2, w3⟩
  have cb : (0 ≤ nI p ∧ nI p ≤ nI nq - 1) ∧ (0 ≤ a2 ∧ a2 ≤ 9999) ∧ (0 ≤ a3 ∧ a3 ≤ 9999) := ⟨⟨v1.1, v1.2.2.2.2.2.1⟩, w2, w3⟩
  obtain ⟨nd, d, u, n8, hd24, hu, hcd, ⟨σ1, σ2, q1, q2, f2, e8, e89, e90⟩, rf⟩ := h.ways a2 a3 m1 b1 hp
  have e102 : σ2 102 = σ 102 := f2 102 (by omega)
  obtain ⟨σ3, g1, g2, g3, g4, g5⟩ := rf σ2 e102
  have hpw := p2b nd n8
  refine ⟨oz (fun _ => true) u (2 ^ nd), σ2, σ3, ?_, ?_, h.scr ((Scr.of2 f2).trans (Scr.out g1 g2))⟩
  · unfold M_X9_could M_X7_couldBe
    rw [b9_canReckon, k1, if_pos ca, if_neg (show ¬ (1 : Int32) = 0 by decide), q1, gBd_s, q2, gBd_s, gBd_s]
  · unfold M_X10_could
    have L := l_co (σ := σ3) (u := u) (nI p) a2 a3 n8 g4 (K := fun _ z12 σ13 => some (z12, σ13)) (2 ^ nd) 0 gFu (by omega) (fu _ (by omega))
    rw [b10_canAsk, show σ2 102 1 = nI nq by rw [e102]; exact m1, if_pos cb, if_neg (show ¬ (1 : Int32) = 0 by decide), g5, gBd_s]
    exact L
