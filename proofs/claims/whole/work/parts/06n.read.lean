/-- a price off a sheet -/
def prc (v : Int32) : Int32 := if 1 ≤ v ∧ v ≤ 99 then v else 0
def prn (v : Int32) (a : Int32) : Int32 := if 1 ≤ v ∧ v ≤ 99 then a + 1 else a
theorem l_readC {σ : gSt} {K : Int32 → Int32 → gSt → gO} {j n : Nat} (hj : j < 4) (hn : n ≤ 60) : ∀ (d i m : Nat) (acc : Int32), i + d = n → d < m → L2_X6_readPrices j (nI n) m (nI i) acc (gRow σ 42 (fa_fill (fun i => prc (σ (97 + j) i)) (σ 42) i)) K = K (nI n) (fo (fun i a => prn (σ (97 + j) i) a) d i acc) (gRow σ 42 (fa_fill (fun i => prc (σ (97 + j) i)) (σ 42) n)) := by
  intro d
  induction d with
  | zero =>
    intro i m acc hi hm
    obtain ⟨m, rfl⟩ : ∃ q, m = q + 1 := ⟨m - 1, by omega⟩
    have e : i = n := by omega
    subst e
    rw [L2_X6_readPrices, if_pos (nI_le (Nat.le_refl _) (by omega)), fo]
  | succ d ih =>
    intro i m acc hi hm
    obtain ⟨m, rfl⟩ : ∃ q, m = q + 1 := ⟨m - 1, by omega⟩
    rw [L2_X6_readPrices, if_neg (nle (by omega) (by omega)), gIx_n (by omega) (by omega), nI_tn (by omega), e9_within, gBd_s, gRow_n (show 97 + j ≠ 42 by omega), fo]
    have fs : upd (fa_fill (fun i => prc (σ (97 + j) i)) (σ 42) i) i (prc (σ (97 + j) i)) = fa_fill (fun i => prc (σ (97 + j) i)) (σ 42) (i + 1) := fa_fill_succ (fun i => prc (σ (97 + j) i)) (σ 42) i
    by_cases c : 1 ≤ σ (97 + j) i ∧ σ (97 + j) i ≤ 99
    · have e1 : prc (σ (97 + j) i) = σ (97 + j) i := if_pos c
      have e2 : prn (σ (97 + j) i) acc = acc + 1 := if_pos c
      rw [e2, ← ih (i + 1) m _ (by omega) (by omega), ← fs, e1, ← gUp_row]
      rw [if_pos c, if_neg (show ¬ (1 : Int32) = 0 by decide), gIx_n (by omega) (by omega), gIx_n (by omega) (by omega), gNm_e, if_neg (show ¬ (1 : Int32) = 0 by decide), gNm_e, gNm_e, nI_1]
    · have e1 : prc (σ (97 + j) i) = 0 := if_neg c
      have e2 : prn (σ (97 + j) i) acc = acc := if_neg c
      rw [e2, ← ih (i + 1) m _ (by omega) (by omega), ← fs, e1, ← gUp_row]
      rw [if_neg c, if_pos (show (0 : Int32) = 0 from rfl), gIx_n (by omega) (by omega), gNm_e, if_pos (show (0 : Int32) = 0 from rfl), gNm_e, gNm_e, nI_1, Int32.add_zero]
theorem l_readM {σ : gSt} {K : Int32 → Int32 → gSt → gO} {j n : Nat} (hj : j < 4) (hn : n ≤ 60) (h5 : σ 105 j = nI n) : ∀ (d i m : Nat) (acc : Int32), i + d = n → d < m → L6_X10_read (nI j) m (nI i) acc (gRow σ 102 (fb_put (σ 102) (fun i => prc (σ 106 (60 * j + i))) 489 i)) K = K (nI n) (fo (fun i a => prn (σ 106 (60 * j + i)) a) d i acc) (gRow σ 102 (fb_put (σ 102) (fun i => prc (σ 106 (60 * j + i))) 489 n)) := by
  intro d
  induction d with
  | zero =>
    intro i m acc hi hm
    obtain ⟨m, rfl⟩ : ∃ q, m = q + 1 := ⟨m - 1, by omega⟩
    have e : i = n := by omega
    subst e
    rw [L6_X10_read, gIx_n (by omega) (by omega), nI_tn (by omega), gRow_n (show 105 ≠ 102 by decide), h5, if_pos (nI_le (Nat.le_refl _) (by omega)), fo]
  | succ d ih =>
    intro i m acc hi hm
    obtain ⟨m, rfl⟩ : ∃ q, m = q + 1 := ⟨m - 1, by omega⟩
    rw [L6_X10_read, gIx_n (by omega) (by omega), nI_tn (by omega), gRow_n (show 105 ≠ 102 by decide), h5, if_neg (nle (by omega) (by omega)), lm_60, nI_add, gIx_n (by omega) (by omega), gNm_e, nI_tn (by omega), e10_within, gBd_s, gRow_n (show 106 ≠ 102 by decide), fo]
    have fs : upd (fb_put (σ 102) (fun i => prc (σ 106 (60 * j + i))) 489 i) (489 + i) (prc (σ 106 (60 * j + i))) = fb_put (σ 102) (fun i => prc (σ 106 (60 * j + i))) 489 (i + 1) := fb_put_succ (σ 102) (fun i => prc (σ 106 (60 * j + i))) 489 i
    by_cases c : 1 ≤ σ 106 (60 * j + i) ∧ σ 106 (60 * j + i) ≤ 99
    · have e1 : prc (σ 106 (60 * j + i)) = σ 106 (60 * j + i) := if_pos c
      have e2 : prn (σ 106 (60 * j + i)) acc = acc + 1 := if_pos c
      rw [e2, ← ih (i + 1) m _ (by omega) (by omega), ← fs, e1, ← gUp_row]
      rw [if_pos c, if_neg (show ¬ (1 : Int32) = 0 by decide), li_489, gIx_n (by omega) (by omega), gNm_e, e10_within, gBd_s, if_pos c, if_neg (show ¬ (1 : Int32) = 0 by decide), gNm_e, gNm_e, nI_1, nI_tn (by omega)]
    · have e1 : prc (σ 106 (60 * j + i)) = 0 := if_neg c
      have e2 : prn (σ 106 (60 * j + i)) acc = acc := if_neg c
      rw [e2, ← ih (i + 1) m _ (by omega) (by omega), ← fs, e1, ← gUp_row]
      rw [if_neg c, if_pos (show (0 : Int32) = 0 from rfl), li_489, gIx_n (by omega) (by omega), gNm_e, e10_within, gBd_s, if_neg c, if_pos (show (0 : Int32) = 0 from rfl), gNm_e, gNm_e, nI_1, Int32.add_zero, nI_tn (by omega)]
theorem t_read (a1 : Int32) {σ : gSt} (h : Inv σ) : Agr (M_X9_read a1) (M_X10_read a1) σ := by
  by_cases w1 : 0 ≤ a1 ∧ a1 ≤ 3
  rotate_left
  · exact Agr.find h (-100001) (by simp (disch := omega) [M_X9_read, ↓gBd_s, ↓gNm_e, ↓b9_within, ↓b10_within, ↓b9_isDay, ↓b10_isDay, ↓b9_isWeek, ↓b10_isWeek, ↓b9_isSheet, ↓b10_isSheet, ↓b9_finding, ↓b10_finding, ↓b4_has, ↓b5_has, ↓b1_has, ↓b2_has, ↓b3_has, ↓b10_isParishU, ↓b10_isPersonU, ↓b10_isOrderU, ↓gIx_c0, ↓gIx_c1, ↓gIx_c2, ↓gIx_c3, ↓gIx_c4, ↓gIx_c5, ↓gIx_c6, ↓gIx_n, ↓gx_7, ↓gx_13, ↓gx_49, ↓gx_59, ↓gx_69, ↓gx_79, ↓gx_89, ↓gx_99, ↓gx_109, ↓gx_119, ↓gx_129, ↓gx_153, ↓gx_177, ↓gx_201, ↓gx_225, ↓gx_249, ↓gx_273, ↓gx_297, ↓gx_321, ↓gx_333, ↓gx_345, ↓gx_357, ↓gx_369, ↓gx_389, ↓gx_409, ↓gx_429, ↓gx_449, ↓gx_469, ↓gx_489, ↓gx_5, ↓ite_bz, e9_within, e10_within, e9_isDay, e10_isDay, e9_isWeek, e10_isWeek, e9_isSheet, e10_isSheet, e9_finding, e10_finding, e4_has, e5_has, e1_has, e2_has, e3_has, e10_isParishU, e10_isPersonU, e10_isOrderU, le_p, tn0, tn1, tn2, tn3, tn4, tn5, tn6, gUp_n, gUp_s, upd_s, upd_n, nI_add, nI_1, nI_tn, nI_p1, if_true, if_false, bz0, not_true_eq_false, not_false_eq_true, true_and, and_true, ne_eq, and_self, li_7, li_13, li_49, li_59, li_69, li_79, li_89, li_99, li_109, li_119, li_129, li_153, li_177, li_201, li_225, li_249, li_273, li_297, li_321, li_333, li_345, li_357, li_369, li_389, li_409, li_429, li_449, li_469, li_489, li_5, lm_6, lm_20, lm_60, lm_4, w1]) (by simp (disch := omega) [M_X10_read, ↓gBd_s, ↓gNm_e, ↓b9_within, ↓b10_within, ↓b9_isDay, ↓b10_isDay, ↓b9_isWeek, ↓b10_isWeek, ↓b9_isSheet, ↓b10_isSheet, ↓b9_finding, ↓b10_finding, ↓b4_has, ↓b5_has, ↓b1_has, ↓b2_has, ↓b3_has, ↓b10_isParishU, ↓b10_isPersonU, ↓b10_isOrderU, ↓gIx_c0, ↓gIx_c1, ↓gIx_c2, ↓gIx_c3, ↓gIx_c4, ↓gIx_c5, ↓gIx_c6, ↓gIx_n, ↓gx_7, ↓gx_13, ↓gx_49, ↓gx_59, ↓gx_69, ↓gx_79, ↓gx_89, ↓gx_99, ↓gx_109, ↓gx_119, ↓gx_129, ↓gx_153, ↓gx_177, ↓gx_201, ↓gx_225, ↓gx_249, ↓gx_273, ↓gx_297, ↓gx_321, ↓gx_333, ↓gx_345, ↓gx_357, ↓gx_369, ↓gx_389, ↓gx_409, ↓gx_429, ↓gx_449, ↓gx_469, ↓gx_489, ↓gx_5, ↓ite_bz, e9_within, e10_within, e9_isDay, e10_isDay, e9_isWeek, e10_isWeek, e9_isSheet, e10_isSheet, e9_finding, e10_finding, e4_has, e5_has, e1_has, e2_has, e3_has, e10_isParishU, e10_isPersonU, e10_isOrderU, le_p, tn0, tn1, tn2, tn3, tn4, tn5, tn6, gUp_n, gUp_s, upd_s, upd_n, nI_add, nI_1, nI_tn, nI_p1, if_true, if_false, bz0, not_true_eq_false, not_false_eq_true, true_and, and_true, ne_eq, and_self, li_7, li_13, li_49, li_59, li_69, li_79, li_89, li_99, li_109, li_119, li_129, li_153, li_177, li_201, li_225, li_249, li_273, li_297, li_321, li_333, li_345, li_357, li_369, li_389, li_409, li_429, li_449, li_469, li_489, li_5, lm_6, lm_20, lm_60, lm_4, w1])
  obtain ⟨j, hj, rfl⟩ := ix4 w1
  obtain ⟨s1, s2, s3, ⟨n, hn, s4⟩, s5⟩ := h.2.2.2.2 j hj
  by_cases z : σ 104 j = 0
  · exact Agr.find h (-100002) (by simp (disch := omega) [M_X9_read, ↓gBd_s, ↓gNm_e, ↓b9_within, ↓b10_within, ↓b9_isDay, ↓b10_isDay, ↓b9_isWeek, ↓b10_isWeek, ↓b9_isSheet, ↓b10_isSheet, ↓b9_finding, ↓b10_finding, ↓b4_has, ↓b5_has, ↓b1_has, ↓b2_has, ↓b3_has, ↓b10_isParishU, ↓b10_isPersonU, ↓b10_isOrderU, ↓gIx_c0, ↓gIx_c1, ↓gIx_c2, ↓gIx_c3, ↓gIx_c4, ↓gIx_c5, ↓gIx_c6, ↓gIx_n, ↓gx_7, ↓gx_13, ↓gx_49, ↓gx_59, ↓gx_69, ↓gx_79, ↓gx_89, ↓gx_99, ↓gx_109, ↓gx_119, ↓gx_129, ↓gx_153, ↓gx_177, ↓gx_201, ↓gx_225, ↓gx_249, ↓gx_273, ↓gx_297, ↓gx_321, ↓gx_333, ↓gx_345, ↓gx_357, ↓gx_369, ↓gx_389, ↓gx_409, ↓gx_429, ↓gx_449, ↓gx_469, ↓gx_489, ↓gx_5, ↓ite_bz, e9_within, e10_within, e9_isDay, e10_isDay, e9_isWeek, e10_isWeek, e9_isSheet, e10_isSheet, e9_finding, e10_finding, e4_has, e5_has, e1_has, e2_has, e3_has, e10_isParishU, e10_isPersonU, e10_isOrderU, le_p, tn0, tn1, tn2, tn3, tn4, tn5, tn6, gUp_n, gUp_s, upd_s, upd_n, nI_add, nI_1, nI_tn, nI_p1, if_true, if_false, bz0, not_true_eq_false, not_false_eq_true, true_and, and_true, ne_eq, and_self, li_7, li_13, li_49, li_59, li_69, li_79, li_89, li_99, li_109, li_119, li_129, li_153, li_177, li_201, li_225, li_249, li_273, li_297, li_321, li_333, li_345, li_357, li_369, li_389, li_409, li_429, li_449, li_469, li_489, li_5, lm_6, lm_20, lm_60, lm_4, w1, ↓b8_isMissing, s1, z]) (by simp (disch := omega) [M_X10_read, ↓gBd_s, ↓gNm_e, ↓b9_within, ↓b10_within, ↓b9_isDay, ↓b10_isDay, ↓b9_isWeek, ↓b10_isWeek, ↓b9_isSheet, ↓b10_isSheet, ↓b9_finding, ↓b10_finding, ↓b4_has, ↓b5_has, ↓b1_has, ↓b2_has, ↓b3_has, ↓b10_isParishU, ↓b10_isPersonU, ↓b10_isOrderU, ↓gIx_c0, ↓gIx_c1, ↓gIx_c2, ↓gIx_c3, ↓gIx_c4, ↓gIx_c5, ↓gIx_c6, ↓gIx_n, ↓gx_7, ↓gx_13, ↓gx_49, ↓gx_59, ↓gx_69, ↓gx_79, ↓gx_89, ↓gx_99, ↓gx_109, ↓gx_119, ↓gx_129, ↓gx_153, ↓gx_177, ↓gx_201, ↓gx_225, ↓gx_249, ↓gx_273, ↓gx_297, ↓gx_321, ↓gx_333, ↓gx_345, ↓gx_357, ↓gx_369, ↓gx_389, ↓gx_409, ↓gx_429, ↓gx_449, ↓gx_469, ↓gx_489, ↓gx_5, ↓ite_bz, e9_within, e10_within, e9_isDay, e10_isDay, e9_isWeek, e10_isWeek, e9_isSheet, e10_isSheet, e9_finding, e10_finding, e4_has, e5_has, e1_has, e2_has, e3_has, e10_isParishU, e10_isPersonU, e10_isOrderU, le_p, tn0, tn1, tn2, tn3, tn4, tn5, tn6, gUp_n, gUp_s, upd_s, upd_n, nI_add, nI_1, nI_tn, nI_p1, if_true, if_false, bz0, not_true_eq_false, not_false_eq_true, true_and, and_true, ne_eq, and_self, li_7, li_13, li_49, li_59, li_69, li_79, li_89, li_99, li_109, li_119, li_129, li_153, li_177, li_201, li_225, li_249, li_273, li_297, li_321, li_333, li_345, li_357, li_369, li_389, li_409, li_429, li_449, li_469, li_489, li_5, lm_6, lm_20, lm_60, lm_4, w1, ↓b8_isMissing, s1, z])
  obtain ⟨np, nq, nf, nl, no, hR, hC, hX, ⟨k0, k1, k2, k3, k4⟩, ⟨m0, m1, m2, m3, m4⟩, ⟨b0, b1, b2, b3, b4⟩⟩ := h.nums
  have sl : σ (93 + j) 1 = nI n := s2.trans s4
  have e1 : M_X6_readPrices j σ = some (fo (fun i a => prn (σ 106 (60 * j + i)) a) n 0 0, gRow σ 42 (fa_fill (fun i => prc (σ (97 + j) i)) (σ 42) n)) := by
    unfold M_X6_readPrices
    rw [gNm_e, sl, if_neg (show ¬ (60 : Int32) < nI n from nI_nlt (a := 60) hn (by omega))]
    have L := l_readC (σ := σ) (K := fun _ z24 σ25 => some (z24, σ25)) hj hn n 0 gFu 0 (by omega) (fu _ (by omega))
    rw [fill0, gRow_id rfl, nI_0] at L
    rw [L, fo_cong n 0 0 (g := fun i a => prn (σ 106 (60 * j + i)) a) (fun i b _ hi => by rw [s3 i (by omega)])]
  refine ⟨fo (fun i a => prn (σ 106 (60 * j + i)) a) n 0 0, gRow σ 42 (fa_fill (fun i => prc (σ (97 + j) i)) (σ 42) n), gRow (gRow σ 42 (fa_fill (fun i => prc (σ (97 + j) i)) (σ 42) n)) 102 (fb_put (σ 102) (fun i => prc (σ 106 (60 * j + i))) 489 n), ?_, ?_, ?_⟩
  · simp (disch := omega) [M_X9_read, ↓b8_isMissing, ↓gBd_s, ↓gNm_e, ↓b9_within, ↓b10_within, ↓b9_isDay, ↓b10_isDay, ↓b9_isWeek, ↓b10_isWeek, ↓b9_isSheet, ↓b10_isSheet, ↓b9_finding, ↓b10_finding, ↓b4_has, ↓b5_has, ↓b1_has, ↓b2_has, ↓b3_has, ↓b10_isParishU, ↓b10_isPersonU, ↓b10_isOrderU, ↓gIx_c0, ↓gIx_c1, ↓gIx_c2, ↓gIx_c3, ↓gIx_c4, ↓gIx_c5, ↓gIx_c6, ↓gIx_n, ↓gx_7, ↓gx_13, ↓gx_49, ↓gx_59, ↓gx_69, ↓gx_79, ↓gx_89, ↓gx_99, ↓gx_109, ↓gx_119, ↓gx_129, ↓gx_153, ↓gx_177, ↓gx_201, ↓gx_225, ↓gx_249, ↓gx_273, ↓gx_297, ↓gx_321, ↓gx_333, ↓gx_345, ↓gx_357, ↓gx_369, ↓gx_389, ↓gx_409, ↓gx_429, ↓gx_449, ↓gx_469, ↓gx_489, ↓gx_5, ↓ite_bz, e9_within, e10_within, e9_isDay, e10_isDay, e9_isWeek, e10_isWeek, e9_isSheet, e10_isSheet, e9_finding, e10_finding, e4_has, e5_has, e1_has, e2_has, e3_has, e10_isParishU, e10_isPersonU, e10_isOrderU, le_p, tn0, tn1, tn2, tn3, tn4, tn5, tn6, gUp_n, gUp_s, upd_s, upd_n, nI_add, nI_1, nI_tn, nI_p1, if_true, if_false, bz0, not_true_eq_false, not_false_eq_true, true_and, and_true, ne_eq, and_self, li_7, li_13, li_49, li_59, li_69, li_79, li_89, li_99, li_109, li_119, li_129, li_153, li_177, li_201, li_225, li_249, li_273, li_297, li_321, li_333, li_345, li_357, li_369, li_389, li_409, li_429, li_449, li_469, li_489, li_5, lm_6, lm_20, lm_60, lm_4, w1, s1, z, e1]
  · have L := l_readM (σ := gRow σ 42 (fa_fill (fun i => prc (σ (97 + j) i)) (σ 42) n)) (K := fun _ z33 σ34 => some (z33, σ34)) hj hn (by rw [gRow_n (show 105 ≠ 42 by decide)]; exact s4) n 0 gFu 0 (by omega) (fu _ (by omega))
    rw [fb_put_0, gRow_id rfl, nI_0] at L
    simp (disch := omega) only [gR_n] at L
    simp (disch := omega) only [M_X10_read, ↓gBd_s, ↓gNm_e, ↓b9_within, ↓b10_within, ↓b9_isDay, ↓b10_isDay, ↓b9_isWeek, ↓b10_isWeek, ↓b9_isSheet, ↓b10_isSheet, ↓b9_finding, ↓b10_finding, ↓b4_has, ↓b5_has, ↓b1_has, ↓b2_has, ↓b3_has, ↓b10_isParishU, ↓b10_isPersonU, ↓b10_isOrderU, ↓gIx_c0, ↓gIx_c1, ↓gIx_c2, ↓gIx_c3, ↓gIx_c4, ↓gIx_c5, ↓gIx_c6, ↓gIx_n, ↓gx_7, ↓gx_13, ↓gx_49, ↓gx_59, ↓gx_69, ↓gx_79, ↓gx_89, ↓gx_99, ↓gx_109, ↓gx_119, ↓gx_129, ↓gx_153, ↓gx_177, ↓gx_201, ↓gx_225, ↓gx_249, ↓gx_273, ↓gx_297, ↓gx_321, ↓gx_333, ↓gx_345, ↓gx_357, ↓gx_369, ↓gx_389, ↓gx_409, ↓gx_429, ↓gx_449, ↓gx_469, ↓gx_489, ↓gx_5, ↓ite_bz, e9_within, e10_within, e9_isDay, e10_isDay, e9_isWeek, e10_isWeek, e9_isSheet, e10_isSheet, e9_finding, e10_finding, e4_has, e5_has, e1_has, e2_has, e3_has, e10_isParishU, e10_isPersonU, e10_isOrderU, le_p, tn0, tn1, tn2, tn3, tn4, tn5, tn6, gUp_n, gUp_s, upd_s, upd_n, nI_add, nI_1, nI_tn, nI_p1, if_true, if_false, bz0, not_true_eq_false, not_false_eq_true, true_and, and_true, ne_eq, and_self, li_7, li_13, li_49, li_59, li_69, li_79, li_89, li_99, li_109, li_119, li_129, li_153, li_177, li_201, li_225, li_249, li_273, li_297, li_321, li_333, li_345, li_357, li_369, li_389, li_409, li_429, li_449, li_469, li_489, li_5, lm_6, lm_20, lm_60, lm_4, w1, z, gR_n]
    exact L
  · refine h.book ?_ (fun k hk => by simp (disch := omega) only [gR_n])
    simp (disch := omega) only [gR_n, gRow_s]
    obtain ⟨rA, rT, rW, rP, rS, rZ, rL, rF, rD, rO⟩ := hR
    have nN : ∀ i, i < 489 → fb_put (σ 102) (fun i => prc (σ 106 (60 * j + i))) 489 n i = σ 102 i := fun i hi => fb_put_out (Or.inl hi)
    refine ⟨?_, hX.same (by simp (disch := omega) only [gR_n]) (by simp (disch := omega) only [gR_n]) (by simp (disch := omega) only [gR_n]) (fun i hi => nN i (by omega)), np, nq, nf, nl, no, ⟨⟨by rw [nN _ (by omega)]; exact m0, by rw [nN _ (by omega)]; exact m1, by rw [nN _ (by omega)]; exact m2, by rw [nN _ (by omega)]; exact m3, by rw [nN _ (by omega)]; exact m4⟩, by omega⟩, rT.same (nN _ (by omega)), rW.same (fun i hi => nN i (by omega)), rP.same (fun i hi => nN i (by omega)), rS.same (fun i hi => nN i (by omega)), rZ.same (by omega) (fun j h1 h2 => ⟨nN _ (by omega), nN _ (by omega), nN _ (by omega)⟩), rL.same (by omega) (fun i hi => nN i (by omega)), rF.same (fun i hi => nN i (by omega)), rD.same (fun i hi => nN i (by omega)) (by omega), rO.same (by omega) (by omega) (fun i hi => nN i (by omega))⟩
    intro q hq j' hj'
    by_cases e : q.1 = 42
    · have := colT_one q hq (42, 0, 489, 60) (by decide) e
      subst this
      dsimp only at hj' ⊢
      rw [gRow_n (show 42 ≠ 102 by decide), gRow_s, Nat.zero_add]
      by_cases c : j' < n
      · rw [fa_fill_in c, fb_put_in (by omega) (by omega), s3 _ (by omega), show 489 + j' - 489 = j' by omega]
      · rw [fa_fill_out (by omega), fb_put_out (by omega)]
        exact hC.get0 42 489 60 (by decide) hj'
    · have h1 : q.2.2.1 + q.2.2.2 ≤ 489 := (by decide +kernel : ∀ q ∈ colT, q.1 ≠ 42 → q.2.2.1 + q.2.2.2 ≤ 489) q hq e
      have h2 : q.1 ≤ 42 := (by decide +kernel : ∀ q ∈ colT, q.1 ≤ 42) q hq
      rw [gRow_n (by omega), gRow_n e, nN _ (by omega)]
      exact hC q hq j' hj'
