/-- a law of a kind in force on a day -/
def fr (N : Nat → Int32) (k d : Int32) (l : Nat) : Prop := N (321 + l) = k ∧ ¬ d < N (345 + l) ∧ ¬ N (357 + l) < d
/-- some law of a kind in force on a day, of a NUMBER of at most x; above x -/
def lawAt (N : Nat → Int32) (nl : Nat) (k d x : Int32) : Prop := ∃ l, l < nl ∧ fr N k d l ∧ ¬ x < N (333 + l)
def lawAb (N : Nat → Int32) (nl : Nat) (k d x : Int32) : Prop := ∃ l, l < nl ∧ fr N k d l ∧ ¬ N (333 + l) ≤ x
theorem e10_isForce (k d : Int32) (σ : gSt) {l : Nat} (hl : l < 12) : (fr (σ 102) k d l ∧ M_X10_isForce (nI l) k d σ = some (1, σ)) ∨ (¬ fr (σ 102) k d l ∧ M_X10_isForce (nI l) k d σ = some (0, σ)) := by
  unfold fr
  by_cases c1 : σ 102 (321 + l) = k
  · by_cases c2 : d < σ 102 (345 + l)
    · exact Or.inr ⟨fun y => y.2.1 c2, by simp (disch := omega) only [M_X10_isForce, ↓gBd_s, ↓gNm_e, ↓b9_within, ↓b10_within, ↓b9_isDay, ↓b10_isDay, ↓b9_isWeek, ↓b10_isWeek, ↓b9_isSheet, ↓b10_isSheet, ↓b9_finding, ↓b10_finding, ↓b4_has, ↓b5_has, ↓b1_has, ↓b2_has, ↓b3_has, ↓b10_isParishU, ↓b10_isPersonU, ↓b10_isOrderU, ↓gIx_c0, ↓gIx_c1, ↓gIx_c2, ↓gIx_c3, ↓gIx_c4, ↓gIx_c5, ↓gIx_c6, ↓gIx_n, ↓gx_7, ↓gx_13, ↓gx_49, ↓gx_59, ↓gx_69, ↓gx_79, ↓gx_89, ↓gx_99, ↓gx_109, ↓gx_119, ↓gx_129, ↓gx_153, ↓gx_177, ↓gx_201, ↓gx_225, ↓gx_249, ↓gx_273, ↓gx_297, ↓gx_321, ↓gx_333, ↓gx_345, ↓gx_357, ↓gx_369, ↓gx_389, ↓gx_409, ↓gx_429, ↓gx_449, ↓gx_469, ↓gx_489, ↓gx_5, ↓ite_bz, e9_within, e10_within, e9_isDay, e10_isDay, e9_isWeek, e10_isWeek, e9_isSheet, e10_isSheet, e9_finding, e10_finding, e4_has, e5_has, e1_has, e2_has, e3_has, e10_isParishU, e10_isPersonU, e10_isOrderU, le_p, tn0, tn1, tn2, tn3, tn4, tn5, tn6, gUp_n, gUp_s, upd_s, upd_n, nI_add, nI_1, nI_tn, nI_p1, if_true, if_false, bz0, not_true_eq_false, not_false_eq_true, true_and, and_true, ne_eq, and_self, li_7, li_13, li_49, li_59, li_69, li_79, li_89, li_99, li_109, li_119, li_129, li_153, li_177, li_201, li_225, li_249, li_273, li_297, li_321, li_333, li_345, li_357, li_369, li_389, li_409, li_429, li_449, li_469, li_489, li_5, lm_6, lm_20, lm_60, lm_4, c1, c2]⟩
    · by_cases c3 : σ 102 (357 + l) < d
      · exact Or.inr ⟨fun y => y.2.2 c3, by simp (disch := omega) only [M_X10_isForce, ↓gBd_s, ↓gNm_e, ↓b9_within, ↓b10_within, ↓b9_isDay, ↓b10_isDay, ↓b9_isWeek, ↓b10_isWeek, ↓b9_isSheet, ↓b10_isSheet, ↓b9_finding, ↓b10_finding, ↓b4_has, ↓b5_has, ↓b1_has, ↓b2_has, ↓b3_has, ↓b10_isParishU, ↓b10_isPersonU, ↓b10_isOrderU, ↓gIx_c0, ↓gIx_c1, ↓gIx_c2, ↓gIx_c3, ↓gIx_c4, ↓gIx_c5, ↓gIx_c6, ↓gIx_n, ↓gx_7, ↓gx_13, ↓gx_49, ↓gx_59, ↓gx_69, ↓gx_79, ↓gx_89, ↓gx_99, ↓gx_109, ↓gx_119, ↓gx_129, ↓gx_153, ↓gx_177, ↓gx_201, ↓gx_225, ↓gx_249, ↓gx_273, ↓gx_297, ↓gx_321, ↓gx_333, ↓gx_345, ↓gx_357, ↓gx_369, ↓gx_389, ↓gx_409, ↓gx_429, ↓gx_449, ↓gx_469, ↓gx_489, ↓gx_5, ↓ite_bz, e9_within, e10_within, e9_isDay, e10_isDay, e9_isWeek, e10_isWeek, e9_isSheet, e10_isSheet, e9_finding, e10_finding, e4_has, e5_has, e1_has, e2_has, e3_has, e10_isParishU, e10_isPersonU, e10_isOrderU, le_p, tn0, tn1, tn2, tn3, tn4, tn5, tn6, gUp_n, gUp_s, upd_s, upd_n, nI_add, nI_1, nI_tn, nI_p1, if_true, if_false, bz0, not_true_eq_false, not_false_eq_true, true_and, and_true, ne_eq, and_self, li_7, li_13, li_49, li_59, li_69, li_79, li_89, li_99, li_109, li_119, li_129, li_153, li_177, li_201, li_225, li_249, li_273, li_297, li_321, li_333, li_345, li_357, li_369, li_389, li_409, li_429, li_449, li_469, li_489, li_5, lm_6, lm_20, lm_60, lm_4, c1, c2, c3]⟩
      · exact Or.inl ⟨⟨c1, c2, c3⟩, by simp (disch := omega) only [M_X10_isForce, ↓gBd_s, ↓gNm_e, ↓b9_within, ↓b10_within, ↓b9_isDay, ↓b10_isDay, ↓b9_isWeek, ↓b10_isWeek, ↓b9_isSheet, ↓b10_isSheet, ↓b9_finding, ↓b10_finding, ↓b4_has, ↓b5_has, ↓b1_has, ↓b2_has, ↓b3_has, ↓b10_isParishU, ↓b10_isPersonU, ↓b10_isOrderU, ↓gIx_c0, ↓gIx_c1, ↓gIx_c2, ↓gIx_c3, ↓gIx_c4, ↓gIx_c5, ↓gIx_c6, ↓gIx_n, ↓gx_7, ↓gx_13, ↓gx_49, ↓gx_59, ↓gx_69, ↓gx_79, ↓gx_89, ↓gx_99, ↓gx_109, ↓gx_119, ↓gx_129, ↓gx_153, ↓gx_177, ↓gx_201, ↓gx_225, ↓gx_249, ↓gx_273, ↓gx_297, ↓gx_321, ↓gx_333, ↓gx_345, ↓gx_357, ↓gx_369, ↓gx_389, ↓gx_409, ↓gx_429, ↓gx_449, ↓gx_469, ↓gx_489, ↓gx_5, ↓ite_bz, e9_within, e10_within, e9_isDay, e10_isDay, e9_isWeek, e10_isWeek, e9_isSheet, e10_isSheet, e9_finding, e10_finding, e4_has, e5_has, e1_has, e2_has, e3_has, e10_isParishU, e10_isPersonU, e10_isOrderU, le_p, tn0, tn1, tn2, tn3, tn4, tn5, tn6, gUp_n, gUp_s, upd_s, upd_n, nI_add, nI_1, nI_tn, nI_p1, if_true, if_false, bz0, not_true_eq_false, not_false_eq_true, true_and, and_true, ne_eq, and_self, li_7, li_13, li_49, li_59, li_69, li_79, li_89, li_99, li_109, li_119, li_129, li_153, li_177, li_201, li_225, li_249, li_273, li_297, li_321, li_333, li_345, li_357, li_369, li_389, li_409, li_429, li_449, li_469, li_489, li_5, lm_6, lm_20, lm_60, lm_4, c1, c2, c3]⟩
  · exact Or.inr ⟨fun y => c1 y.1, by simp (disch := omega) only [M_X10_isForce, ↓gBd_s, ↓gNm_e, ↓b9_within, ↓b10_within, ↓b9_isDay, ↓b10_isDay, ↓b9_isWeek, ↓b10_isWeek, ↓b9_isSheet, ↓b10_isSheet, ↓b9_finding, ↓b10_finding, ↓b4_has, ↓b5_has, ↓b1_has, ↓b2_has, ↓b3_has, ↓b10_isParishU, ↓b10_isPersonU, ↓b10_isOrderU, ↓gIx_c0, ↓gIx_c1, ↓gIx_c2, ↓gIx_c3, ↓gIx_c4, ↓gIx_c5, ↓gIx_c6, ↓gIx_n, ↓gx_7, ↓gx_13, ↓gx_49, ↓gx_59, ↓gx_69, ↓gx_79, ↓gx_89, ↓gx_99, ↓gx_109, ↓gx_119, ↓gx_129, ↓gx_153, ↓gx_177, ↓gx_201, ↓gx_225, ↓gx_249, ↓gx_273, ↓gx_297, ↓gx_321, ↓gx_333, ↓gx_345, ↓gx_357, ↓gx_369, ↓gx_389, ↓gx_409, ↓gx_429, ↓gx_449, ↓gx_469, ↓gx_489, ↓gx_5, ↓ite_bz, e9_within, e10_within, e9_isDay, e10_isDay, e9_isWeek, e10_isWeek, e9_isSheet, e10_isSheet, e9_finding, e10_finding, e4_has, e5_has, e1_has, e2_has, e3_has, e10_isParishU, e10_isPersonU, e10_isOrderU, le_p, tn0, tn1, tn2, tn3, tn4, tn5, tn6, gUp_n, gUp_s, upd_s, upd_n, nI_add, nI_1, nI_tn, nI_p1, if_true, if_false, bz0, not_true_eq_false, not_false_eq_true, true_and, and_true, ne_eq, and_self, li_7, li_13, li_49, li_59, li_69, li_79, li_89, li_99, li_109, li_119, li_129, li_153, li_177, li_201, li_225, li_249, li_273, li_297, li_321, li_333, li_345, li_357, li_369, li_389, li_409, li_429, li_449, li_469, li_489, li_5, lm_6, lm_20, lm_60, lm_4, c1]⟩
theorem e2_rules (k d : Int32) {σ : gSt} (hC : Col σ (σ 102)) {l : Nat} (hl : l < 12) : (fr (σ 102) k d l ∧ M_X2_rules (nI l) k d σ = some (1, σ)) ∨ (¬ fr (σ 102) k d l ∧ M_X2_rules (nI l) k d σ = some (0, σ)) := by
  unfold fr
  rw [← hC.get0 27 321 12 (by decide) hl, ← hC.get0 29 345 12 (by decide) hl, ← hC.get0 30 357 12 (by decide) hl]
  by_cases c1 : σ 27 l = k
  · by_cases c2 : d < σ 29 l
    · exact Or.inr ⟨fun y => y.2.1 c2, by simp (disch := omega) only [M_X2_rules, ↓gBd_s, ↓gNm_e, ↓b9_within, ↓b10_within, ↓b9_isDay, ↓b10_isDay, ↓b9_isWeek, ↓b10_isWeek, ↓b9_isSheet, ↓b10_isSheet, ↓b9_finding, ↓b10_finding, ↓b4_has, ↓b5_has, ↓b1_has, ↓b2_has, ↓b3_has, ↓b10_isParishU, ↓b10_isPersonU, ↓b10_isOrderU, ↓gIx_c0, ↓gIx_c1, ↓gIx_c2, ↓gIx_c3, ↓gIx_c4, ↓gIx_c5, ↓gIx_c6, ↓gIx_n, ↓gx_7, ↓gx_13, ↓gx_49, ↓gx_59, ↓gx_69, ↓gx_79, ↓gx_89, ↓gx_99, ↓gx_109, ↓gx_119, ↓gx_129, ↓gx_153, ↓gx_177, ↓gx_201, ↓gx_225, ↓gx_249, ↓gx_273, ↓gx_297, ↓gx_321, ↓gx_333, ↓gx_345, ↓gx_357, ↓gx_369, ↓gx_389, ↓gx_409, ↓gx_429, ↓gx_449, ↓gx_469, ↓gx_489, ↓gx_5, ↓ite_bz, e9_within, e10_within, e9_isDay, e10_isDay, e9_isWeek, e10_isWeek, e9_isSheet, e10_isSheet, e9_finding, e10_finding, e4_has, e5_has, e1_has, e2_has, e3_has, e10_isParishU, e10_isPersonU, e10_isOrderU, le_p, tn0, tn1, tn2, tn3, tn4, tn5, tn6, gUp_n, gUp_s, upd_s, upd_n, nI_add, nI_1, nI_tn, nI_p1, if_true, if_false, bz0, not_true_eq_false, not_false_eq_true, true_and, and_true, ne_eq, and_self, li_7, li_13, li_49, li_59, li_69, li_79, li_89, li_99, li_109, li_119, li_129, li_153, li_177, li_201, li_225, li_249, li_273, li_297, li_321, li_333, li_345, li_357, li_369, li_389, li_409, li_429, li_449, li_469, li_489, li_5, lm_6, lm_20, lm_60, lm_4, c1, c2]⟩
    · by_cases c3 : σ 30 l < d
      · exact Or.inr ⟨fun y => y.2.2 c3, by simp (disch := omega) only [M_X2_rules, ↓gBd_s, ↓gNm_e, ↓b9_within, ↓b10_within, ↓b9_isDay, ↓b10_isDay, ↓b9_isWeek, ↓b10_isWeek, ↓b9_isSheet, ↓b10_isSheet, ↓b9_finding, ↓b10_finding, ↓b4_has, ↓b5_has, ↓b1_has, ↓b2_has, ↓b3_has, ↓b10_isParishU, ↓b10_isPersonU, ↓b10_isOrderU, ↓gIx_c0, ↓gIx_c1, ↓gIx_c2, ↓gIx_c3, ↓gIx_c4, ↓gIx_c5, ↓gIx_c6, ↓gIx_n, ↓gx_7, ↓gx_13, ↓gx_49, ↓gx_59, ↓gx_69, ↓gx_79, ↓gx_89, ↓gx_99, ↓gx_109, ↓gx_119, ↓gx_129, ↓gx_153, ↓gx_177, ↓gx_201, ↓gx_225, ↓gx_249, ↓gx_273, ↓gx_297, ↓gx_321, ↓gx_333, ↓gx_345, ↓gx_357, ↓gx_369, ↓gx_389, ↓gx_409, ↓gx_429, ↓gx_449, ↓gx_469, ↓gx_489, ↓gx_5, ↓ite_bz, e9_within, e10_within, e9_isDay, e10_isDay, e9_isWeek, e10_isWeek, e9_isSheet, e10_isSheet, e9_finding, e10_finding, e4_has, e5_has, e1_has, e2_has, e3_has, e10_isParishU, e10_isPersonU, e10_isOrderU, le_p, tn0, tn1, tn2, tn3, tn4, tn5, tn6, gUp_n, gUp_s, upd_s, upd_n, nI_add, nI_1, nI_tn, nI_p1, if_true, if_false, bz0, not_true_eq_false, not_false_eq_true, true_and, and_true, ne_eq, and_self, li_7, li_13, li_49, li_59, li_69, li_79, li_89, li_99, li_109, li_119, li_129, li_153, li_177, li_201, li_225, li_249, li_273, li_297, li_321, li_333, li_345, li_357, li_369, li_389, li_409, li_429, li_449, li_469, li_489, li_5, lm_6, lm_20, lm_60, lm_4, c1, c2, c3]⟩
      · exact Or.inl ⟨⟨c1, c2, c3⟩, by simp (disch := omega) only [M_X2_rules, ↓gBd_s, ↓gNm_e, ↓b9_within, ↓b10_within, ↓b9_isDay, ↓b10_isDay, ↓b9_isWeek, ↓b10_isWeek, ↓b9_isSheet, ↓b10_isSheet, ↓b9_finding, ↓b10_finding, ↓b4_has, ↓b5_has, ↓b1_has, ↓b2_has, ↓b3_has, ↓b10_isParishU, ↓b10_isPersonU, ↓b10_isOrderU, ↓gIx_c0, ↓gIx_c1, ↓gIx_c2, ↓gIx_c3, ↓gIx_c4, ↓gIx_c5, ↓gIx_c6, ↓gIx_n, ↓gx_7, ↓gx_13, ↓gx_49, ↓gx_59, ↓gx_69, ↓gx_79, ↓gx_89, ↓gx_99, ↓gx_109, ↓gx_119, ↓gx_129, ↓gx_153, ↓gx_177, ↓gx_201, ↓gx_225, ↓gx_249, ↓gx_273, ↓gx_297, ↓gx_321, ↓gx_333, ↓gx_345, ↓gx_357, ↓gx_369, ↓gx_389, ↓gx_409, ↓gx_429, ↓gx_449, ↓gx_469, ↓gx_489, ↓gx_5, ↓ite_bz, e9_within, e10_within, e9_isDay, e10_isDay, e9_isWeek, e10_isWeek, e9_isSheet, e10_isSheet, e9_finding, e10_finding, e4_has, e5_has, e1_has, e2_has, e3_has, e10_isParishU, e10_isPersonU, e10_isOrderU, le_p, tn0, tn1, tn2, tn3, tn4, tn5, tn6, gUp_n, gUp_s, upd_s, upd_n, nI_add, nI_1, nI_tn, nI_p1, if_true, if_false, bz0, not_true_eq_false, not_false_eq_true, true_and, and_true, ne_eq, and_self, li_7, li_13, li_49, li_59, li_69, li_79, li_89, li_99, li_109, li_119, li_129, li_153, li_177, li_201, li_225, li_249, li_273, li_297, li_321, li_333, li_345, li_357, li_369, li_389, li_409, li_429, li_449, li_469, li_489, li_5, lm_6, lm_20, lm_60, lm_4, c1, c2, c3]⟩
  · exact Or.inr ⟨fun y => c1 y.1, by simp (disch := omega) only [M_X2_rules, ↓gBd_s, ↓gNm_e, ↓b9_within, ↓b10_within, ↓b9_isDay, ↓b10_isDay, ↓b9_isWeek, ↓b10_isWeek, ↓b9_isSheet, ↓b10_isSheet, ↓b9_finding, ↓b10_finding, ↓b4_has, ↓b5_has, ↓b1_has, ↓b2_has, ↓b3_has, ↓b10_isParishU, ↓b10_isPersonU, ↓b10_isOrderU, ↓gIx_c0, ↓gIx_c1, ↓gIx_c2, ↓gIx_c3, ↓gIx_c4, ↓gIx_c5, ↓gIx_c6, ↓gIx_n, ↓gx_7, ↓gx_13, ↓gx_49, ↓gx_59, ↓gx_69, ↓gx_79, ↓gx_89, ↓gx_99, ↓gx_109, ↓gx_119, ↓gx_129, ↓gx_153, ↓gx_177, ↓gx_201, ↓gx_225, ↓gx_249, ↓gx_273, ↓gx_297, ↓gx_321, ↓gx_333, ↓gx_345, ↓gx_357, ↓gx_369, ↓gx_389, ↓gx_409, ↓gx_429, ↓gx_449, ↓gx_469, ↓gx_489, ↓gx_5, ↓ite_bz, e9_within, e10_within, e9_isDay, e10_isDay, e9_isWeek, e10_isWeek, e9_isSheet, e10_isSheet, e9_finding, e10_finding, e4_has, e5_has, e1_has, e2_has, e3_has, e10_isParishU, e10_isPersonU, e10_isOrderU, le_p, tn0, tn1, tn2, tn3, tn4, tn5, tn6, gUp_n, gUp_s, upd_s, upd_n, nI_add, nI_1, nI_tn, nI_p1, if_true, if_false, bz0, not_true_eq_false, not_false_eq_true, true_and, and_true, ne_eq, and_self, li_7, li_13, li_49, li_59, li_69, li_79, li_89, li_99, li_109, li_119, li_129, li_153, li_177, li_201, li_225, li_249, li_273, li_297, li_321, li_333, li_345, li_357, li_369, li_389, li_409, li_429, li_449, li_469, li_489, li_5, lm_6, lm_20, lm_60, lm_4, c1]⟩
/-- a loop that has found -/
theorem l_has1 {σ : gSt} {K : Int32 → Int32 → gSt → gO} {nl : Nat} {k d x : Int32} (h3 : σ 102 3 = nI nl) (hb : nl ≤ 12) : ∀ (e i n : Nat), i + e = nl → e < n → L1_X10_hasLaw k d x n (nI i) 1 σ K = K (nI nl) 1 σ := by
  intro e
  induction e with
  | zero =>
    intro i n hi hn
    obtain ⟨n, rfl⟩ : ∃ q, n = q + 1 := ⟨n - 1, by omega⟩
    have : i = nl := by omega
    subst this
    rw [L1_X10_hasLaw, gIx_c3, tn3, h3, if_pos (nI_le (Nat.le_refl _) (by omega))]
  | succ e ih =>
    intro i n hi hn
    obtain ⟨n, rfl⟩ : ∃ q, n = q + 1 := ⟨n - 1, by omega⟩
    rw [L1_X10_hasLaw, gIx_c3, tn3, h3, if_neg (nle (by omega) (by omega)), if_neg (show ¬ (1 : Int32) = 0 by decide), gNm_e, nI_1]
    exact ih (i + 1) n (by omega) (by omega)
theorem l_has0 {σ : gSt} {K : Int32 → Int32 → gSt → gO} {nl : Nat} {k d x : Int32} (h3 : σ 102 3 = nI nl) (hb : nl ≤ 12) : ∀ (e i n : Nat), i + e = nl → e < n → ((∃ l, i ≤ l ∧ l < nl ∧ fr (σ 102) k d l ∧ ¬ x < σ 102 (333 + l)) → L1_X10_hasLaw k d x n (nI i) 0 σ K = K (nI nl) 1 σ) ∧ ((¬ ∃ l, i ≤ l ∧ l < nl ∧ fr (σ 102) k d l ∧ ¬ x < σ 102 (333 + l)) → L1_X10_hasLaw k d x n (nI i) 0 σ K = K (nI nl) 0 σ) := by
  intro e
  induction e with
  | zero =>
    intro i n hi hn
    obtain ⟨n, rfl⟩ : ∃ q, n = q + 1 := ⟨n - 1, by omega⟩
    have : i = nl := by omega
    subst this
    refine ⟨fun ⟨l, h1, h2, _⟩ => by omega, fun _ => ?_⟩
    rw [L1_X10_hasLaw, gIx_c3, tn3, h3, if_pos (nI_le (Nat.le_refl _) (by omega))]
  | succ e ih =>
    intro i n hi hn
    obtain ⟨n, rfl⟩ : ∃ q, n = q + 1 := ⟨n - 1, by omega⟩
    obtain ⟨ih1, ih0⟩ := ih (i + 1) n (by omega) (by omega)
    rw [L1_X10_hasLaw, gIx_c3, tn3, h3, if_neg (nle (by omega) (by omega)), if_pos (show (0 : Int32) = 0 from rfl)]
    have mv : (¬ (fr (σ 102) k d i ∧ ¬ x < σ 102 (333 + i))) → ((∃ l, i ≤ l ∧ l < nl ∧ fr (σ 102) k d l ∧ ¬ x < σ 102 (333 + l)) ↔ (∃ l, i + 1 ≤ l ∧ l < nl ∧ fr (σ 102) k d l ∧ ¬ x < σ 102 (333 + l))) := by
      intro hno
      constructor
      · rintro ⟨l, h1, h2, h4⟩
        rcases Nat.eq_or_lt_of_le h1 with q | q
        · subst q
          exact absurd h4 hno
        · exact ⟨l, by omega, h2, h4⟩
      · rintro ⟨l, h1, h2⟩
        exact ⟨l, by omega, h2⟩
    rcases e10_isForce k d σ (l := i) (by omega) with ⟨c, q⟩ | ⟨c, q⟩
    · rw [q, gBd_s, if_neg (show ¬ (1 : Int32) = 0 by decide), li_333, gIx_n (by omega) (by omega), nI_tn (by omega)]
      by_cases c2 : x < σ 102 (333 + i)
      · rw [if_pos c2, gNm_e, nI_1, mv (fun y => y.2 c2)]
        exact ⟨ih1, ih0⟩
      · rw [if_neg c2, gNm_e, nI_1, l_has1 h3 hb e (i + 1) n (by omega) (by omega)]
        exact ⟨fun _ => rfl, fun y => absurd ⟨i, Nat.le_refl i, by omega, c, c2⟩ y⟩
    · rw [q, gBd_s, if_pos (show (0 : Int32) = 0 from rfl), gNm_e, nI_1, mv (fun y => c y.1)]
      exact ⟨ih1, ih0⟩
theorem e10_hasLaw (k d x : Int32) {σ : gSt} {nl : Nat} (h3 : σ 102 3 = nI nl) (hb : nl ≤ 12) : (lawAt (σ 102) nl k d x ∧ M_X10_hasLaw k d x σ = some (1, σ)) ∨ (¬ lawAt (σ 102) nl k d x ∧ M_X10_hasLaw k d x σ = some (0, σ)) := by
  obtain ⟨h1, h0⟩ := l_has0 (σ := σ) (K := fun _ z15 σ16 => gGd (z15 = 0 ∨ z15 = 1) (some (z15, σ16))) (k := k) (d := d) (x := x) h3 hb nl 0 gFu (by omega) (fu _ (by omega))
  rw [nI_0] at h1 h0
  by_cases c : lawAt (σ 102) nl k d x
  · left
    obtain ⟨l, a1, a2⟩ := id c
    refine ⟨c, ?_⟩
    unfold M_X10_hasLaw
    rw [h1 ⟨l, by omega, a1, a2⟩]
    exact gGd_t (Or.inr rfl)
  · right
    refine ⟨c, ?_⟩
    unfold M_X10_hasLaw
    rw [h0 (fun ⟨l, _, a1, a2⟩ => c ⟨l, a1, a2⟩)]
    exact gGd_t (Or.inl rfl)
theorem l_anyRules {σ : gSt} {nl : Nat} {k d : Int32} (hC : Col σ (σ 102)) (h3 : σ 26 0 = nI nl) (hb : nl ≤ 12) : ∀ (e i n : Nat), i + e = nl → e < n → ((∃ l, i ≤ l ∧ l < nl ∧ fr (σ 102) k d l) → L1_X2_anyRules k d n (nI i) σ (fun _ s => some (0, s)) = some (1, σ)) ∧ ((¬ ∃ l, i ≤ l ∧ l < nl ∧ fr (σ 102) k d l) → L1_X2_anyRules k d n (nI i) σ (fun _ s => some (0, s)) = some (0, σ)) := by
  intro e
  induction e with
  | zero =>
    intro i n hi hn
    obtain ⟨n, rfl⟩ : ∃ q, n = q + 1 := ⟨n - 1, by omega⟩
    have : i = nl := by omega
    subst this
    refine ⟨fun ⟨l, h1, h2, _⟩ => by omega, fun _ => ?_⟩
    rw [L1_X2_anyRules, h3, if_pos (nI_le (Nat.le_refl _) (by omega))]
  | succ e ih =>
    intro i n hi hn
    obtain ⟨n, rfl⟩ : ∃ q, n = q + 1 := ⟨n - 1, by omega⟩
    obtain ⟨ih1, ih0⟩ := ih (i + 1) n (by omega) (by omega)
    rw [L1_X2_anyRules, h3, if_neg (nle (by omega) (by omega))]
    have mv : (¬ fr (σ 102) k d i) → ((∃ l, i ≤ l ∧ l < nl ∧ fr (σ 102) k d l) ↔ (∃ l, i + 1 ≤ l ∧ l < nl ∧ fr (σ 102) k d l)) := by
      intro hno
      constructor
      · rintro ⟨l, h1, h2, h4⟩
        rcases Nat.eq_or_lt_of_le h1 with q | q
        · subst q
          exact absurd h4 hno
        · exact ⟨l, by omega, h2, h4⟩
      · rintro ⟨l, h1, h2⟩
        exact ⟨l, by omega, h2⟩
    rcases e2_rules k d hC (l := i) (by omega) with ⟨c, q⟩ | ⟨c, q⟩
    · rw [q, gBd_s, if_neg (show ¬ (1 : Int32) = 0 by decide)]
      exact ⟨fun _ => rfl, fun y => absurd ⟨i, Nat.le_refl i, by omega, c⟩ y⟩
    · rw [q, gBd_s, if_pos (show (0 : Int32) = 0 from rfl), gNm_e, nI_1, mv c]
      exact ⟨ih1, ih0⟩
theorem e2_anyRules {k d : Int32} {σ : gSt} {nl : Nat} (hC : Col σ (σ 102)) (hX : Exc σ (σ 102)) (h3 : σ 26 0 = nI nl) (hb : nl ≤ 12) (hk : k = 0 ∨ k = 3) : (lawAt (σ 102) nl k d 0 ∧ M_X2_anyRules k d σ = some (1, σ)) ∨ (¬ lawAt (σ 102) nl k d 0 ∧ M_X2_anyRules k d σ = some (0, σ)) := by
  obtain ⟨h1, h0⟩ := l_anyRules (k := k) (d := d) hC h3 hb nl 0 gFu (by omega) (fu _ (by omega))
  rw [nI_0] at h1 h0
  have iff : lawAt (σ 102) nl k d 0 ↔ ∃ l, 0 ≤ l ∧ l < nl ∧ fr (σ 102) k d l := by
    constructor
    · rintro ⟨l, a1, a2, _⟩
      exact ⟨l, by omega, a1, a2⟩
    · rintro ⟨l, _, a1, a2⟩
      refine ⟨l, a1, a2, ?_⟩
      have := (hX.2.2 l (by omega)).2 (by rw [a2.1]; exact hk)
      rw [this]
      decide
  by_cases c : lawAt (σ 102) nl k d 0
  · exact Or.inl ⟨c, h1 (iff.mp c)⟩
  · exact Or.inr ⟨c, h0 (fun y => c (iff.mpr y))⟩
theorem l_anyAtMost {σ : gSt} {nl : Nat} {k d x : Int32} (hC : Col σ (σ 102)) (hX : Exc σ (σ 102)) (h3 : σ 26 0 = nI nl) (hb : nl ≤ 12) (hk : k = 1 ∨ k = 2 ∨ k = 4) : ∀ (e i n : Nat), i + e = nl → e < n → ((∃ l, i ≤ l ∧ l < nl ∧ fr (σ 102) k d l ∧ ¬ x < σ 102 (333 + l)) → L1_X2_anyAtMost k d x n (nI i) σ (fun _ s => some (0, s)) = some (1, σ)) ∧ ((¬ ∃ l, i ≤ l ∧ l < nl ∧ fr (σ 102) k d l ∧ ¬ x < σ 102 (333 + l)) → L1_X2_anyAtMost k d x n (nI i) σ (fun _ s => some (0, s)) = some (0, σ)) := by
  intro e
  induction e with
  | zero =>
    intro i n hi hn
    obtain ⟨n, rfl⟩ : ∃ q, n = q + 1 := ⟨n - 1, by omega⟩
    have : i = nl := by omega
    subst this
    refine ⟨fun ⟨l, h1, h2, _⟩ => by omega, fun _ => ?_⟩
    rw [L1_X2_anyAtMost, h3, if_pos (nI_le (Nat.le_refl _) (by omega))]
  | succ e ih =>
    intro i n hi hn
    obtain ⟨n, rfl⟩ : ∃ q, n = q + 1 := ⟨n - 1, by omega⟩
    obtain ⟨ih1, ih0⟩ := ih (i + 1) n (by omega) (by omega)
    rw [L1_X2_anyAtMost, h3, if_neg (nle (by omega) (by omega))]
    have mv : (¬ (fr (σ 102) k d i ∧ ¬ x < σ 102 (333 + i))) → ((∃ l, i ≤ l ∧ l < nl ∧ fr (σ 102) k d l ∧ ¬ x < σ 102 (333 + l)) ↔ (∃ l, i + 1 ≤ l ∧ l < nl ∧ fr (σ 102) k d l ∧ ¬ x < σ 102 (333 + l))) := by
      intro hno
      constructor
      · rintro ⟨l, h1, h2, h4⟩
        rcases Nat.eq_or_lt_of_le h1 with q | q
        · subst q
          exact absurd h4 hno
        · exact ⟨l, by omega, h2, h4⟩
      · rintro ⟨l, h1, h2⟩
        exact ⟨l, by omega, h2⟩
    rcases e2_rules k d hC (l := i) (by omega) with ⟨c, q⟩ | ⟨c, q⟩
    · have e28 : σ 28 i = σ 102 (333 + i) := (hX.2.2 i (by omega)).1 (by rw [c.1]; exact hk)
      rw [q, gBd_s, if_neg (show ¬ (1 : Int32) = 0 by decide), gIx_n (by omega) (by omega), nI_tn (by omega), e28]
      by_cases c2 : x < σ 102 (333 + i)
      · rw [if_pos c2, gNm_e, nI_1, mv (fun y => y.2 c2)]
        exact ⟨ih1, ih0⟩
      · rw [if_neg c2]
        exact ⟨fun _ => rfl, fun y => absurd ⟨i, Nat.le_refl i, by omega, c, c2⟩ y⟩
    · rw [q, gBd_s, if_pos (show (0 : Int32) = 0 from rfl), gNm_e, nI_1, mv (fun y => c y.1)]
      exact ⟨ih1, ih0⟩
theorem e2_anyAtMost {k d x : Int32} {σ : gSt} {nl : Nat} (hC : Col σ (σ 102)) (hX : Exc σ (σ 102)) (h3 : σ 26 0 = nI nl) (hb : nl ≤ 12) (hk : k = 1 ∨ k = 2 ∨ k = 4) : (lawAt (σ 102) nl k d x ∧ M_X2_anyAtMost k d x σ = some (1, σ)) ∨ (¬ lawAt (σ 102) nl k d x ∧ M_X2_anyAtMost k d x σ = some (0, σ)) := by
  obtain ⟨h1, h0⟩ := l_anyAtMost (x := x) (d := d) hC hX h3 hb hk nl 0 gFu (by omega) (fu _ (by omega))
  rw [nI_0] at h1 h0
  by_cases c : lawAt (σ 102) nl k d x
  · obtain ⟨l, a1, a2⟩ := id c
    exact Or.inl ⟨c, h1 ⟨l, by omega, a1, a2⟩⟩
  · exact Or.inr ⟨c, h0 (fun ⟨l, _, a1, a2⟩ => c ⟨l, a1, a2⟩)⟩
theorem l_anyAbove {σ : gSt} {nl : Nat} {k d x : Int32} (hC : Col σ (σ 102)) (hX : Exc σ (σ 102)) (h3 : σ 26 0 = nI nl) (hb : nl ≤ 12) (hk : k = 1 ∨ k = 2 ∨ k = 4) : ∀ (e i n : Nat), i + e = nl → e < n → ((∃ l, i ≤ l ∧ l < nl ∧ fr (σ 102) k d l ∧ ¬ σ 102 (333 + l) ≤ x) → L1_X2_anyAbove k d x n (nI i) σ (fun _ s => some (0, s)) = some (1, σ)) ∧ ((¬ ∃ l, i ≤ l ∧ l < nl ∧ fr (σ 102) k d l ∧ ¬ σ 102 (333 + l) ≤ x) → L1_X2_anyAbove k d x n (nI i) σ (fun _ s => some (0, s)) = some (0, σ)) := by
  intro e
  induction e with
  | zero =>
    intro i n hi hn
    obtain ⟨n, rfl⟩ : ∃ q, n = q + 1 := ⟨n - 1, by omega⟩
    have : i = nl := by omega
    subst this
    refine ⟨fun ⟨l, h1, h2, _⟩ => by omega, fun _ => ?_⟩
    rw [L1_X2_anyAbove, h3, if_pos (nI_le (Nat.le_refl _) (by omega))]
  | succ e ih =>
    intro i n hi hn
    obtain ⟨n, rfl⟩ : ∃ q, n = q + 1 := ⟨n - 1, by omega⟩
    obtain ⟨ih1, ih0⟩ := ih (i + 1) n (by omega) (by omega)
    rw [L1_X2_anyAbove, h3, if_neg (nle (by omega) (by omega))]
    have mv : (¬ (fr (σ 102) k d i ∧ ¬ σ 102 (333 + i) ≤ x)) → ((∃ l, i ≤ l ∧ l < nl ∧ fr (σ 102) k d l ∧ ¬ σ 102 (333 + l) ≤ x) ↔ (∃ l, i + 1 ≤ l ∧ l < nl ∧ fr (σ 102) k d l ∧ ¬ σ 102 (333 + l) ≤ x)) := by
      intro hno
      constructor
      · rintro ⟨l, h1, h2, h4⟩
        rcases Nat.eq_or_lt_of_le h1 with q | q
        · subst q
          exact absurd h4 hno
        · exact ⟨l, by omega, h2, h4⟩
      · rintro ⟨l, h1, h2⟩
        exact ⟨l, by omega, h2⟩
    rcases e2_rules k d hC (l := i) (by omega) with ⟨c, q⟩ | ⟨c, q⟩
    · have e28 : σ 28 i = σ 102 (333 + i) := (hX.2.2 i (by omega)).1 (by rw [c.1]; exact hk)
      rw [q, gBd_s, if_neg (show ¬ (1 : Int32) = 0 by decide), gIx_n (by omega) (by omega), nI_tn (by omega), e28]
      by_cases c2 : σ 102 (333 + i) ≤ x
      · rw [if_pos c2, gNm_e, nI_1, mv (fun y => y.2 c2)]
        exact ⟨ih1, ih0⟩
      · rw [if_neg c2]
        exact ⟨fun _ => rfl, fun y => absurd ⟨i, Nat.le_refl i, by omega, c, c2⟩ y⟩
    · rw [q, gBd_s, if_pos (show (0 : Int32) = 0 from rfl), gNm_e, nI_1, mv (fun y => c y.1)]
      exact ⟨ih1, ih0⟩
theorem e2_anyAbove {d x : Int32} {σ : gSt} {nl : Nat} (hC : Col σ (σ 102)) (hX : Exc σ (σ 102)) (h3 : σ 26 0 = nI nl) (hb : nl ≤ 12) : (lawAb (σ 102) nl 4 d x ∧ M_X2_anyAbove 4 d x σ = some (1, σ)) ∨ (¬ lawAb (σ 102) nl 4 d x ∧ M_X2_anyAbove 4 d x σ = some (0, σ)) := by
  obtain ⟨h1, h0⟩ := l_anyAbove (x := x) (d := d) hC hX h3 hb (Or.inr (Or.inr rfl)) nl 0 gFu (by omega) (fu _ (by omega))
  rw [nI_0] at h1 h0
  by_cases c : lawAb (σ 102) nl 4 d x
  · obtain ⟨l, a1, a2⟩ := id c
    exact Or.inl ⟨c, h1 ⟨l, by omega, a1, a2⟩⟩
  · exact Or.inr ⟨c, h0 (fun ⟨l, _, a1, a2⟩ => c ⟨l, a1, a2⟩)⟩
theorem l_yng1 {σ : gSt} {K : Int32 → Int32 → gSt → gO} {nl : Nat} {b a1 a2 : Int32} (h3 : σ 102 3 = nI nl) (hb : nl ≤ 12) : ∀ (e i n : Nat), i + e = nl → e < n → L7_X10_goesBy b a1 a2 n (nI i) 1 σ K = K (nI nl) 1 σ := by
  intro e
  induction e with
  | zero =>
    intro i n hi hn
    obtain ⟨n, rfl⟩ : ∃ q, n = q + 1 := ⟨n - 1, by omega⟩
    have : i = nl := by omega
    subst this
    rw [L7_X10_goesBy, gIx_c3, tn3, h3, if_pos (nI_le (Nat.le_refl _) (by omega))]
  | succ e ih =>
    intro i n hi hn
    obtain ⟨n, rfl⟩ : ∃ q, n = q + 1 := ⟨n - 1, by omega⟩
    rw [L7_X10_goesBy, gIx_c3, tn3, h3, if_neg (nle (by omega) (by omega)), if_neg (show ¬ (1 : Int32) = 0 by decide), gNm_e, nI_1]
    exact ih (i + 1) n (by omega) (by omega)
theorem l_yng0 {σ : gSt} {K : Int32 → Int32 → gSt → gO} {nl : Nat} {b a1 a2 : Int32} (h3 : σ 102 3 = nI nl) (hb : nl ≤ 12) : ∀ (e i n : Nat), i + e = nl → e < n → ((∃ l, i ≤ l ∧ l < nl ∧ fr (σ 102) 4 b l ∧ ¬ σ 102 (333 + l) ≤ a2 - b) → L7_X10_goesBy b a1 a2 n (nI i) 0 σ K = K (nI nl) 1 σ) ∧ ((¬ ∃ l, i ≤ l ∧ l < nl ∧ fr (σ 102) 4 b l ∧ ¬ σ 102 (333 + l) ≤ a2 - b) → L7_X10_goesBy b a1 a2 n (nI i) 0 σ K = K (nI nl) 0 σ) := by
  intro e
  induction e with
  | zero =>
    intro i n hi hn
    obtain ⟨n, rfl⟩ : ∃ q, n = q + 1 := ⟨n - 1, by omega⟩
    have : i = nl := by omega
    subst this
    refine ⟨fun ⟨l, h1, h2, _⟩ => by omega, fun _ => ?_⟩
    rw [L7_X10_goesBy, gIx_c3, tn3, h3, if_pos (nI_le (Nat.le_refl _) (by omega))]
  | succ e ih =>
    intro i n hi hn
    obtain ⟨n, rfl⟩ : ∃ q, n = q + 1 := ⟨n - 1, by omega⟩
    obtain ⟨ih1, ih0⟩ := ih (i + 1) n (by omega) (by omega)
    rw [L7_X10_goesBy, gIx_c3, tn3, h3, if_neg (nle (by omega) (by omega)), if_pos (show (0 : Int32) = 0 from rfl)]
    have mv : (¬ (fr (σ 102) 4 b i ∧ ¬ σ 102 (333 + i) ≤ a2 - b)) → ((∃ l, i ≤ l ∧ l < nl ∧ fr (σ 102) 4 b l ∧ ¬ σ 102 (333 + l) ≤ a2 - b) ↔ (∃ l, i + 1 ≤ l ∧ l < nl ∧ fr (σ 102) 4 b l ∧ ¬ σ 102 (333 + l) ≤ a2 - b)) := by
      intro hno
      constructor
      · rintro ⟨l, h1, h2, h4⟩
        rcases Nat.eq_or_lt_of_le h1 with q | q
        · subst q
          exact absurd h4 hno
        · exact ⟨l, by omega, h2, h4⟩
      · rintro ⟨l, h1, h2⟩
        exact ⟨l, by omega, h2⟩
    rcases e10_isForce 4 b σ (l := i) (by omega) with ⟨c, q⟩ | ⟨c, q⟩
    · rw [q, gBd_s, if_neg (show ¬ (1 : Int32) = 0 by decide), li_333, gIx_n (by omega) (by omega), nI_tn (by omega)]
      by_cases c2 : σ 102 (333 + i) ≤ a2 - b
      · rw [if_pos c2, gNm_e, nI_1, mv (fun y => y.2 c2)]
        exact ⟨ih1, ih0⟩
      · rw [if_neg c2, gNm_e, nI_1, l_yng1 h3 hb e (i + 1) n (by omega) (by omega)]
        exact ⟨fun _ => rfl, fun y => absurd ⟨i, Nat.le_refl i, by omega, c, c2⟩ y⟩
    · rw [q, gBd_s, if_pos (show (0 : Int32) = 0 from rfl), gNm_e, nI_1, mv (fun y => c y.1)]
      exact ⟨ih1, ih0⟩
/-- one goes by another on a day -/
def gob (N : Nat → Int32) (nl : Nat) (day : Int32) (p : Nat) : Prop := 0 ≤ N (79 + p) ∧ ((N (49 + p) = 1 ∧ ¬ day < N (89 + p) ∧ lawAt N nl 3 (N (89 + p)) 0) ∨ (¬ N (49 + p) = 1 ∧ ¬ day < N (69 + p) ∧ lawAb N nl 4 (N (69 + p)) (day - N (69 + p))))
theorem e10_goesBy {σ : gSt} {nl p : Nat} (day : Int32) (h3 : σ 102 3 = nI nl) (hb : nl ≤ 12) (hp : p < 10) : (gob (σ 102) nl day p ∧ M_X10_goesBy (nI p) day σ = some (1, σ)) ∨ (¬ gob (σ 102) nl day p ∧ M_X10_goesBy (nI p) day σ = some (0, σ)) := by
  unfold M_X10_goesBy
  rw [li_79, li_49, li_89, li_69, gIx_n (by omega) (by omega), nI_tn (by omega)]
  by_cases c0 : 0 ≤ σ 102 (79 + p)
  rotate_left
  · rw [if_neg c0]
    exact Or.inr ⟨fun y => c0 y.1, rfl⟩
  rw [if_pos c0, gIx_n (by omega) (by omega), nI_tn (by omega)]
  by_cases c1 : σ 102 (49 + p) = 1
  · rw [if_pos c1, gIx_n (by omega) (by omega), gNm_e, nI_tn (by omega)]
    by_cases c2 : day < σ 102 (89 + p)
    · rw [if_pos c2]
      exact Or.inr ⟨fun y => y.2.elim (fun z => z.2.1 c2) (fun z => z.1 c1), rfl⟩
    · rw [if_neg c2]
      rcases e10_hasLaw 3 (σ 102 (89 + p)) 0 h3 hb with ⟨c, q⟩ | ⟨c, q⟩
      · rw [q, gBd_s, if_neg (show ¬ (1 : Int32) = 0 by decide)]
        exact Or.inl ⟨⟨c0, Or.inl ⟨c1, c2, c⟩⟩, rfl⟩
      · rw [q, gBd_s, if_pos (show (0 : Int32) = 0 from rfl)]
        exact Or.inr ⟨fun y => y.2.elim (fun z => c z.2.2) (fun z => z.1 c1), rfl⟩
  · rw [if_neg c1, gIx_n (by omega) (by omega), gNm_e, nI_tn (by omega)]
    obtain ⟨h1, h0⟩ := l_yng0 (σ := σ) (K := fun _ z21 σ22 => if day < σ 102 (69 + p) then some (0, σ22) else if z21 = 0 then some (0, σ22) else some (1, σ22)) (b := σ 102 (69 + p)) (a1 := nI p) (a2 := day) h3 hb nl 0 gFu (by omega) (fu _ (by omega))
    rw [nI_0] at h1 h0
    by_cases c2 : day < σ 102 (69 + p)
    · right
      refine ⟨fun y => y.2.elim (fun z => c1 z.1) (fun z => z.2.1 c2), ?_⟩
      by_cases c : lawAb (σ 102) nl 4 (σ 102 (69 + p)) (day - σ 102 (69 + p))
      · obtain ⟨l, a1, a2⟩ := id c
        rw [h1 ⟨l, by omega, a1, a2⟩, if_pos c2]
      · rw [h0 (fun ⟨l, _, a1, a2⟩ => c ⟨l, a1, a2⟩), if_pos c2]
    · by_cases c : lawAb (σ 102) nl 4 (σ 102 (69 + p)) (day - σ 102 (69 + p))
      · left
        obtain ⟨l, a1, a2⟩ := id c
        rw [h1 ⟨l, by omega, a1, a2⟩, if_neg c2, if_neg (show ¬ (1 : Int32) = 0 by decide)]
        exact ⟨⟨c0, Or.inr ⟨c1, c2, c⟩⟩, rfl⟩
      · right
        rw [h0 (fun ⟨l, _, a1, a2⟩ => c ⟨l, a1, a2⟩), if_neg c2, if_pos (show (0 : Int32) = 0 from rfl)]
        exact ⟨fun y => y.2.elim (fun z => c1 z.1) (fun z => c z.2.2), rfl⟩
