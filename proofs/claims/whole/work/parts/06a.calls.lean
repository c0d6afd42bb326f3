theorem li_7 (m : Nat) : (7 : Int32) + nI m = nI (7 + m) := li_add 7 m
theorem li_13 (m : Nat) : (13 : Int32) + nI m = nI (13 + m) := li_add 13 m
theorem li_49 (m : Nat) : (49 : Int32) + nI m = nI (49 + m) := li_add 49 m
theorem li_59 (m : Nat) : (59 : Int32) + nI m = nI (59 + m) := li_add 59 m
theorem li_69 (m : Nat) : (69 : Int32) + nI m = nI (69 + m) := li_add 69 m
theorem li_79 (m : Nat) : (79 : Int32) + nI m = nI (79 + m) := li_add 79 m
theorem li_89 (m : Nat) : (89 : Int32) + nI m = nI (89 + m) := li_add 89 m
theorem li_99 (m : Nat) : (99 : Int32) + nI m = nI (99 + m) := li_add 99 m
theorem li_109 (m : Nat) : (109 : Int32) + nI m = nI (109 + m) := li_add 109 m
theorem li_119 (m : Nat) : (119 : Int32) + nI m = nI (119 + m) := li_add 119 m
theorem li_129 (m : Nat) : (129 : Int32) + nI m = nI (129 + m) := li_add 129 m
theorem li_153 (m : Nat) : (153 : Int32) + nI m = nI (153 + m) := li_add 153 m
theorem li_177 (m : Nat) : (177 : Int32) + nI m = nI (177 + m) := li_add 177 m
theorem li_201 (m : Nat) : (201 : Int32) + nI m = nI (201 + m) := li_add 201 m
theorem li_225 (m : Nat) : (225 : Int32) + nI m = nI (225 + m) := li_add 225 m
theorem li_249 (m : Nat) : (249 : Int32) + nI m = nI (249 + m) := li_add 249 m
theorem li_273 (m : Nat) : (273 : Int32) + nI m = nI (273 + m) := li_add 273 m
theorem li_297 (m : Nat) : (297 : Int32) + nI m = nI (297 + m) := li_add 297 m
theorem li_321 (m : Nat) : (321 : Int32) + nI m = nI (321 + m) := li_add 321 m
theorem li_333 (m : Nat) : (333 : Int32) + nI m = nI (333 + m) := li_add 333 m
theorem li_345 (m : Nat) : (345 : Int32) + nI m = nI (345 + m) := li_add 345 m
theorem li_357 (m : Nat) : (357 : Int32) + nI m = nI (357 + m) := li_add 357 m
theorem li_369 (m : Nat) : (369 : Int32) + nI m = nI (369 + m) := li_add 369 m
theorem li_389 (m : Nat) : (389 : Int32) + nI m = nI (389 + m) := li_add 389 m
theorem li_409 (m : Nat) : (409 : Int32) + nI m = nI (409 + m) := li_add 409 m
theorem li_429 (m : Nat) : (429 : Int32) + nI m = nI (429 + m) := li_add 429 m
theorem li_449 (m : Nat) : (449 : Int32) + nI m = nI (449 + m) := li_add 449 m
theorem li_469 (m : Nat) : (469 : Int32) + nI m = nI (469 + m) := li_add 469 m
theorem li_489 (m : Nat) : (489 : Int32) + nI m = nI (489 + m) := li_add 489 m
theorem li_5 (m : Nat) : (5 : Int32) + nI m = nI (5 + m) := li_add 5 m
theorem lm_6 (m : Nat) : (6 : Int32) * nI m = nI (6 * m) := li_mul 6 m
theorem lm_20 (m : Nat) : (20 : Int32) * nI m = nI (20 * m) := li_mul 20 m
theorem lm_60 (m : Nat) : (60 : Int32) * nI m = nI (60 * m) := li_mul 60 m
theorem lm_4 (m : Nat) : (4 : Int32) * nI m = nI (4 * m) := li_mul 4 m
theorem gx_7 {α : Type} {n j : Nat} {X : Option α} (h : 7 + j < n) (hn : n < 2 ^ 31) : gIx n ((7 : Int32) + nI j) X = X := by rw [li_7]; exact gIx_n h hn
theorem gx_13 {α : Type} {n j : Nat} {X : Option α} (h : 13 + j < n) (hn : n < 2 ^ 31) : gIx n ((13 : Int32) + nI j) X = X := by rw [li_13]; exact gIx_n h hn
theorem gx_49 {α : Type} {n j : Nat} {X : Option α} (h : 49 + j < n) (hn : n < 2 ^ 31) : gIx n ((49 : Int32) + nI j) X = X := by rw [li_49]; exact gIx_n h hn
theorem gx_59 {α : Type} {n j : Nat} {X : Option α} (h : 59 + j < n) (hn : n < 2 ^ 31) : gIx n ((59 : Int32) + nI j) X = X := by rw [li_59]; exact gIx_n h hn
theorem gx_69 {α : Type} {n j : Nat} {X : Option α} (h : 69 + j < n) (hn : n < 2 ^ 31) : gIx n ((69 : Int32) + nI j) X = X := by rw [li_69]; exact gIx_n h hn
theorem gx_79 {α : Type} {n j : Nat} {X : Option α} (h : 79 + j < n) (hn : n < 2 ^ 31) : gIx n ((79 : Int32) + nI j) X = X := by rw [li_79]; exact gIx_n h hn
theorem gx_89 {α : Type} {n j : Nat} {X : Option α} (h : 89 + j < n) (hn : n < 2 ^ 31) : gIx n ((89 : Int32) + nI j) X = X := by rw [li_89]; exact gIx_n h hn
theorem gx_99 {α : Type} {n j : Nat} {X : Option α} (h : 99 + j < n) (hn : n < 2 ^ 31) : gIx n ((99 : Int32) + nI j) X = X := by rw [li_99]; exact gIx_n h hn
theorem gx_109 {α : Type} {n j : Nat} {X : Option α} (h : 109 + j < n) (hn : n < 2 ^ 31) : gIx n ((109 : Int32) + nI j) X = X := by rw [li_109]; exact gIx_n h hn
theorem gx_119 {α : Type} {n j : Nat} {X : Option α} (h : 119 + j < n) (hn : n < 2 ^ 31) : gIx n ((119 : Int32) + nI j) X = X := by rw [li_119]; exact gIx_n h hn
theorem gx_129 {α : Type} {n j : Nat} {X : Option α} (h : 129 + j < n) (hn : n < 2 ^ 31) : gIx n ((129 : Int32) + nI j) X = X := by rw [li_129]; exact gIx_n h hn
theorem gx_153 {α : Type} {n j : Nat} {X : Option α} (h : 153 + j < n) (hn : n < 2 ^ 31) : gIx n ((153 : Int32) + nI j) X = X := by rw [li_153]; exact gIx_n h hn
theorem gx_177 {α : Type} {n j : Nat} {X : Option α} (h : 177 + j < n) (hn : n < 2 ^ 31) : gIx n ((177 : Int32) + nI j) X = X := by rw [li_177]; exact gIx_n h hn
theorem gx_201 {α : Type} {n j : Nat} {X : Option α} (h : 201 + j < n) (hn : n < 2 ^ 31) : gIx n ((201 : Int32) + nI j) X = X := by rw [li_201]; exact gIx_n h hn
theorem gx_225 {α : Type} {n j : Nat} {X : Option α} (h : 225 + j < n) (hn : n < 2 ^ 31) : gIx n ((225 : Int32) + nI j) X = X := by rw [li_225]; exact gIx_n h hn
theorem gx_249 {α : Type} {n j : Nat} {X : Option α} (h : 249 + j < n) (hn : n < 2 ^ 31) : gIx n ((249 : Int32) + nI j) X = X := by rw [li_249]; exact gIx_n h hn
theorem gx_273 {α : Type} {n j : Nat} {X : Option α} (h : 273 + j < n) (hn : n < 2 ^ 31) : gIx n ((273 : Int32) + nI j) X = X := by rw [li_273]; exact gIx_n h hn
theorem gx_297 {α : Type} {n j : Nat} {X : Option α} (h : 297 + j < n) (hn : n < 2 ^ 31) : gIx n ((297 : Int32) + nI j) X = X := by rw [li_297]; exact gIx_n h hn
theorem gx_321 {α : Type} {n j : Nat} {X : Option α} (h : 321 + j < n) (hn : n < 2 ^ 31) : gIx n ((321 : Int32) + nI j) X = X := by rw [li_321]; exact gIx_n h hn
theorem gx_333 {α : Type} {n j : Nat} {X : Option α} (h : 333 + j < n) (hn : n < 2 ^ 31) : gIx n ((333 : Int32) + nI j) X = X := by rw [li_333]; exact gIx_n h hn
theorem gx_345 {α : Type} {n j : Nat} {X : Option α} (h : 345 + j < n) (hn : n < 2 ^ 31) : gIx n ((345 : Int32) + nI j) X = X := by rw [li_345]; exact gIx_n h hn
theorem gx_357 {α : Type} {n j : Nat} {X : Option α} (h : 357 + j < n) (hn : n < 2 ^ 31) : gIx n ((357 : Int32) + nI j) X = X := by rw [li_357]; exact gIx_n h hn
theorem gx_369 {α : Type} {n j : Nat} {X : Option α} (h : 369 + j < n) (hn : n < 2 ^ 31) : gIx n ((369 : Int32) + nI j) X = X := by rw [li_369]; exact gIx_n h hn
theorem gx_389 {α : Type} {n j : Nat} {X : Option α} (h : 389 + j < n) (hn : n < 2 ^ 31) : gIx n ((389 : Int32) + nI j) X = X := by rw [li_389]; exact gIx_n h hn
theorem gx_409 {α : Type} {n j : Nat} {X : Option α} (h : 409 + j < n) (hn : n < 2 ^ 31) : gIx n ((409 : Int32) + nI j) X = X := by rw [li_409]; exact gIx_n h hn
theorem gx_429 {α : Type} {n j : Nat} {X : Option α} (h : 429 + j < n) (hn : n < 2 ^ 31) : gIx n ((429 : Int32) + nI j) X = X := by rw [li_429]; exact gIx_n h hn
theorem gx_449 {α : Type} {n j : Nat} {X : Option α} (h : 449 + j < n) (hn : n < 2 ^ 31) : gIx n ((449 : Int32) + nI j) X = X := by rw [li_449]; exact gIx_n h hn
theorem gx_469 {α : Type} {n j : Nat} {X : Option α} (h : 469 + j < n) (hn : n < 2 ^ 31) : gIx n ((469 : Int32) + nI j) X = X := by rw [li_469]; exact gIx_n h hn
theorem gx_489 {α : Type} {n j : Nat} {X : Option α} (h : 489 + j < n) (hn : n < 2 ^ 31) : gIx n ((489 : Int32) + nI j) X = X := by rw [li_489]; exact gIx_n h hn
theorem gx_5 {α : Type} {n j : Nat} {X : Option α} (h : 5 + j < n) (hn : n < 2 ^ 31) : gIx n ((5 : Int32) + nI j) X = X := by rw [li_5]; exact gIx_n h hn
theorem b9_within {α : Type} (a b c : Int32) (σ : gSt) {K : Int32 → gSt → Option α} : gBd (M_X9_within a b c σ) K = K (if b ≤ a ∧ a ≤ c then 1 else 0) σ := by rw [e9_within]; exact gBd_s
theorem b10_within {α : Type} (a b c : Int32) (σ : gSt) {K : Int32 → gSt → Option α} : gBd (M_X10_within a b c σ) K = K (if b ≤ a ∧ a ≤ c then 1 else 0) σ := by rw [e10_within]; exact gBd_s
theorem b9_isDay {α : Type} (a : Int32) (σ : gSt) {K : Int32 → gSt → Option α} : gBd (M_X9_isDay a σ) K = K (if 0 ≤ a ∧ a ≤ 9999 then 1 else 0) σ := by rw [e9_isDay]; exact gBd_s
theorem b10_isDay {α : Type} (a : Int32) (σ : gSt) {K : Int32 → gSt → Option α} : gBd (M_X10_isDay a σ) K = K (if 0 ≤ a ∧ a ≤ 9999 then 1 else 0) σ := by rw [e10_isDay]; exact gBd_s
theorem b9_isWeek {α : Type} (a : Int32) (σ : gSt) {K : Int32 → gSt → Option α} : gBd (M_X9_isWeek a σ) K = K (if 0 ≤ a ∧ a ≤ 59 then 1 else 0) σ := by rw [e9_isWeek]; exact gBd_s
theorem b10_isWeek {α : Type} (a : Int32) (σ : gSt) {K : Int32 → gSt → Option α} : gBd (M_X10_isWeek a σ) K = K (if 0 ≤ a ∧ a ≤ 59 then 1 else 0) σ := by rw [e10_isWeek]; exact gBd_s
theorem b9_isSheet {α : Type} (a : Int32) (σ : gSt) {K : Int32 → gSt → Option α} : gBd (M_X9_isSheet a σ) K = K (if 0 ≤ a ∧ a ≤ 3 then 1 else 0) σ := by rw [e9_isSheet]; exact gBd_s
theorem b10_isSheet {α : Type} (a : Int32) (σ : gSt) {K : Int32 → gSt → Option α} : gBd (M_X10_isSheet a σ) K = K (if 0 ≤ a ∧ a ≤ 3 then 1 else 0) σ := by rw [e10_isSheet]; exact gBd_s
theorem b4_has {α : Type} (a : Int32) (σ : gSt) {K : Int32 → gSt → Option α} : gBd (M_X4_has a σ) K = K (if 0 ≤ a ∧ a < σ 2 0 then 1 else 0) σ := by rw [e4_has]; exact gBd_s
theorem b5_has {α : Type} (a : Int32) (σ : gSt) {K : Int32 → gSt → Option α} : gBd (M_X5_has a σ) K = K (if 0 ≤ a ∧ a < σ 11 0 then 1 else 0) σ := by rw [e5_has]; exact gBd_s
theorem b1_has {α : Type} (a : Int32) (σ : gSt) {K : Int32 → gSt → Option α} : gBd (M_X1_has a σ) K = K (if 0 ≤ a ∧ a < σ 17 0 then 1 else 0) σ := by rw [e1_has]; exact gBd_s
theorem b2_has {α : Type} (a : Int32) (σ : gSt) {K : Int32 → gSt → Option α} : gBd (M_X2_has a σ) K = K (if 0 ≤ a ∧ a < σ 26 0 then 1 else 0) σ := by rw [e2_has]; exact gBd_s
theorem b3_has {α : Type} (a : Int32) (σ : gSt) {K : Int32 → gSt → Option α} : gBd (M_X3_has a σ) K = K (if 0 ≤ a ∧ a < σ 31 0 then 1 else 0) σ := by rw [e3_has]; exact gBd_s
theorem b10_isParishU {α : Type} (a : Int32) (σ : gSt) {K : Int32 → gSt → Option α} : gBd (M_X10_isParish a σ) K = K (if 0 ≤ a ∧ a ≤ σ 102 0 - 1 then 1 else 0) σ := by rw [e10_isParishU]; exact gBd_s
theorem b10_isPersonU {α : Type} (a : Int32) (σ : gSt) {K : Int32 → gSt → Option α} : gBd (M_X10_isPerson a σ) K = K (if 0 ≤ a ∧ a ≤ σ 102 1 - 1 then 1 else 0) σ := by rw [e10_isPersonU]; exact gBd_s
theorem b10_isOrderU {α : Type} (a : Int32) (σ : gSt) {K : Int32 → gSt → Option α} : gBd (M_X10_isOrder a σ) K = K (if 0 ≤ a ∧ a ≤ σ 102 4 - 1 then 1 else 0) σ := by rw [e10_isOrderU]; exact gBd_s
theorem b9_finding {α : Type} (a : Int32) (σ : gSt) {K : Int32 → gSt → Option α} : gBd (M_X9_finding a σ) K = K a (gF σ) := rfl
theorem b10_finding {α : Type} (a : Int32) (σ : gSt) {K : Int32 → gSt → Option α} : gBd (M_X10_finding a σ) K = K a (gFm σ) := rfl
theorem ite_bz {α : Type} {c : Prop} [Decidable c] {A B : α} : (if (if c then (1 : Int32) else 0) = 0 then A else B) = if c then B else A := by by_cases h : c <;> simp [h]
theorem Inv.nums {σ : gSt} (h : Inv σ) : ∃ np nq nf nl no, Rg (σ 102) np nq nf nl no ∧ Col σ (σ 102) ∧ Exc σ (σ 102) ∧ (σ 2 0 = nI np ∧ σ 11 0 = nI nq ∧ σ 17 0 = nI nf ∧ σ 26 0 = nI nl ∧ σ 31 0 = nI no) ∧ (σ 102 0 = nI np ∧ σ 102 1 = nI nq ∧ σ 102 2 = nI nf ∧ σ 102 3 = nI nl ∧ σ 102 4 = nI no) ∧ (np ≤ 6 ∧ nq ≤ 10 ∧ nf ≤ 24 ∧ nl ≤ 12 ∧ no ≤ 20) := by
  obtain ⟨⟨hC, hX, np, nq, nf, nl, no, hR⟩, -⟩ := h
  refine ⟨np, nq, nf, nl, no, hR, hC, hX, ⟨?_, ?_, ?_, ?_, ?_⟩, hR.1.1, hR.1.2⟩
  · exact (hC.get0 2 0 1 (by decide) (j := 0) (by decide)).trans hR.1.1.1
  · exact (hC.get0 11 1 1 (by decide) (j := 0) (by decide)).trans hR.1.1.2.1
  · exact (hC.get0 17 2 1 (by decide) (j := 0) (by decide)).trans hR.1.1.2.2.1
  · exact (hC.get0 26 3 1 (by decide) (j := 0) (by decide)).trans hR.1.1.2.2.2.1
  · exact (hC.get0 31 4 1 (by decide) (j := 0) (by decide)).trans hR.1.1.2.2.2.2
theorem nI_e {a b : Nat} (ha : a < 2 ^ 31) (hb : b < 2 ^ 31) : (nI a = nI b) = (a = b) := propext (nI_eq ha hb)
theorem nI_l6 {a : Nat} (ha : a < 1000) : (nI a < 6) = (a < 6) := propext (nI_ltI (b := 6) (by omega) (by omega))
theorem nI_e6 {a : Nat} (ha : a < 1000) : (nI a = 6) = (a = 6) := propext (nI_eq (b := 6) (by omega) (by omega))
theorem t_parish (a : Int32) {σ : gSt} (h : Inv σ) : Agr (M_X9_parish a) (M_X10_parish a) σ := by
  obtain ⟨np, nq, nf, nl, no, hR, hC, hX, ⟨k0, k1, k2, k3, k4⟩, ⟨m0, m1, m2, m3, m4⟩, ⟨b0, b1, b2, b3, b4⟩⟩ := h.nums
  by_cases w : 0 ≤ a ∧ a ≤ 10000
  · rcases Nat.lt_or_ge np 6 with hn | hn
    · have hn' : np ≠ 6 := by omega
      refine ⟨nI np, gUp (gUp σ 3 np a) 2 0 (nI (np + 1)), gUp (gUp (gUp (gUp σ 3 np a) 2 0 (nI (np + 1))) 102 (7 + np) a) 102 0 (nI (np + 1)), ?_, ?_, ?_⟩
      · simp (disch := omega) [M_X9_parish, M_X4_add, ↓gBd_s, ↓gNm_e, ↓b9_within, ↓b10_within, ↓b9_isDay, ↓b10_isDay, ↓b9_isWeek, ↓b10_isWeek, ↓b9_isSheet, ↓b10_isSheet, ↓b9_finding, ↓b10_finding, ↓b4_has, ↓b5_has, ↓b1_has, ↓b2_has, ↓b3_has, ↓b10_isParishU, ↓b10_isPersonU, ↓b10_isOrderU, ↓gIx_c0, ↓gIx_c1, ↓gIx_c2, ↓gIx_c3, ↓gIx_c4, ↓gIx_c5, ↓gIx_c6, ↓gIx_n, ↓gx_7, ↓gx_13, ↓gx_49, ↓gx_59, ↓gx_69, ↓gx_79, ↓gx_89, ↓gx_99, ↓gx_109, ↓gx_119, ↓gx_129, ↓gx_153, ↓gx_177, ↓gx_201, ↓gx_225, ↓gx_249, ↓gx_273, ↓gx_297, ↓gx_321, ↓gx_333, ↓gx_345, ↓gx_357, ↓gx_369, ↓gx_389, ↓gx_409, ↓gx_429, ↓gx_449, ↓gx_469, ↓gx_489, ↓gx_5, ↓ite_bz, e9_within, e10_within, e9_isDay, e10_isDay, e9_isWeek, e10_isWeek, e9_isSheet, e10_isSheet, e9_finding, e10_finding, e4_has, e5_has, e1_has, e2_has, e3_has, e10_isParishU, e10_isPersonU, e10_isOrderU, le_p, tn0, tn1, tn2, tn3, tn4, tn5, tn6, gUp_n, gUp_s, upd_s, upd_n, nI_add, nI_1, nI_tn, nI_p1, if_true, if_false, bz0, not_true_eq_false, not_false_eq_true, true_and, and_true, ne_eq, and_self, li_7, li_13, li_49, li_59, li_69, li_79, li_89, li_99, li_109, li_119, li_129, li_153, li_177, li_201, li_225, li_249, li_273, li_297, li_321, li_333, li_345, li_357, li_369, li_389, li_409, li_429, li_449, li_469, li_489, li_5, lm_6, lm_20, lm_60, lm_4, w, k0, nI_l6, hn]
      · simp (disch := omega) [M_X10_parish, ↓gBd_s, ↓gNm_e, ↓b9_within, ↓b10_within, ↓b9_isDay, ↓b10_isDay, ↓b9_isWeek, ↓b10_isWeek, ↓b9_isSheet, ↓b10_isSheet, ↓b9_finding, ↓b10_finding, ↓b4_has, ↓b5_has, ↓b1_has, ↓b2_has, ↓b3_has, ↓b10_isParishU, ↓b10_isPersonU, ↓b10_isOrderU, ↓gIx_c0, ↓gIx_c1, ↓gIx_c2, ↓gIx_c3, ↓gIx_c4, ↓gIx_c5, ↓gIx_c6, ↓gIx_n, ↓gx_7, ↓gx_13, ↓gx_49, ↓gx_59, ↓gx_69, ↓gx_79, ↓gx_89, ↓gx_99, ↓gx_109, ↓gx_119, ↓gx_129, ↓gx_153, ↓gx_177, ↓gx_201, ↓gx_225, ↓gx_249, ↓gx_273, ↓gx_297, ↓gx_321, ↓gx_333, ↓gx_345, ↓gx_357, ↓gx_369, ↓gx_389, ↓gx_409, ↓gx_429, ↓gx_449, ↓gx_469, ↓gx_489, ↓gx_5, ↓ite_bz, e9_within, e10_within, e9_isDay, e10_isDay, e9_isWeek, e10_isWeek, e9_isSheet, e10_isSheet, e9_finding, e10_finding, e4_has, e5_has, e1_has, e2_has, e3_has, e10_isParishU, e10_isPersonU, e10_isOrderU, le_p, tn0, tn1, tn2, tn3, tn4, tn5, tn6, gUp_n, gUp_s, upd_s, upd_n, nI_add, nI_1, nI_tn, nI_p1, if_true, if_false, bz0, not_true_eq_false, not_false_eq_true, true_and, and_true, ne_eq, and_self, li_7, li_13, li_49, li_59, li_69, li_79, li_89, li_99, li_109, li_119, li_129, li_153, li_177, li_201, li_225, li_249, li_273, li_297, li_321, li_333, li_345, li_357, li_369, li_389, li_409, li_429, li_449, li_469, li_489, li_5, lm_6, lm_20, lm_60, lm_4, w, m0, nI_e6, hn']
      · refine h.book ?_ (fun k hk => by simp (disch := omega) only [gUp_n])
        simp (disch := omega) only [gUp_n, gUp_s]
        refine Bk.same (c := gUp (gUp σ 3 np a) 2 0 (nI (np + 1))) ?_ (fun k h1 h2 => by simp (disch := omega) only [gUp_n])
        obtain ⟨rA, rT, rW, rP, rS, rZ, rL, rF, rD, rO⟩ := hR
        refine ⟨(hC.up0 3 7 6 (by decide) hn a).up0 2 0 1 (by decide) (j := 0) (by decide) (nI (np + 1)), hX.same (by simp (disch := omega) only [gUp_n, gUp_s]) (by simp (disch := omega) only [gUp_n, gUp_s]) (by simp (disch := omega) only [gUp_n, gUp_s]) (fun i hi => by simp (disch := omega) only [upd_n, upd_s]), np + 1, nq, nf, nl, no, ⟨⟨by simp (disch := omega) only [upd_n, upd_s], by simp (disch := omega) only [upd_n, upd_s]; exact m1, by simp (disch := omega) only [upd_n, upd_s]; exact m2, by simp (disch := omega) only [upd_n, upd_s]; exact m3, by simp (disch := omega) only [upd_n, upd_s]; exact m4⟩, by omega⟩, rT.same (by simp (disch := omega) only [upd_n, upd_s]), ?_, rP.same (fun i hi => by simp (disch := omega) only [upd_n, upd_s]), rS.same (fun i hi => by simp (disch := omega) only [upd_n, upd_s]), rZ.same (by omega) (fun j h1 h2 => by simp (disch := omega) only [upd_n, upd_s]; exact ⟨trivial, trivial, trivial⟩), rL.same (by omega) (fun i hi => by simp (disch := omega) only [upd_n, upd_s]), rF.same (fun i hi => by simp (disch := omega) only [upd_n, upd_s]), rD.same (fun i hi => by simp (disch := omega) only [upd_n, upd_s]) (by omega), rO.same (by omega) (by omega) (fun i hi => by simp (disch := omega) only [upd_n, upd_s])⟩
        intro j hj
        by_cases e : j = np
        · subst e
          simp (disch := omega) only [upd_n, upd_s]
          exact w
        · simp (disch := omega) only [upd_n, upd_s]
          exact rW j hj
    · have : np = 6 := by omega
      subst this
      refine Agr.find h (-100005) ?_ ?_
      · simp (disch := omega) [M_X9_parish, ↓gBd_s, ↓gNm_e, ↓b9_within, ↓b10_within, ↓b9_isDay, ↓b10_isDay, ↓b9_isWeek, ↓b10_isWeek, ↓b9_isSheet, ↓b10_isSheet, ↓b9_finding, ↓b10_finding, ↓b4_has, ↓b5_has, ↓b1_has, ↓b2_has, ↓b3_has, ↓b10_isParishU, ↓b10_isPersonU, ↓b10_isOrderU, ↓gIx_c0, ↓gIx_c1, ↓gIx_c2, ↓gIx_c3, ↓gIx_c4, ↓gIx_c5, ↓gIx_c6, ↓gIx_n, ↓gx_7, ↓gx_13, ↓gx_49, ↓gx_59, ↓gx_69, ↓gx_79, ↓gx_89, ↓gx_99, ↓gx_109, ↓gx_119, ↓gx_129, ↓gx_153, ↓gx_177, ↓gx_201, ↓gx_225, ↓gx_249, ↓gx_273, ↓gx_297, ↓gx_321, ↓gx_333, ↓gx_345, ↓gx_357, ↓gx_369, ↓gx_389, ↓gx_409, ↓gx_429, ↓gx_449, ↓gx_469, ↓gx_489, ↓gx_5, ↓ite_bz, e9_within, e10_within, e9_isDay, e10_isDay, e9_isWeek, e10_isWeek, e9_isSheet, e10_isSheet, e9_finding, e10_finding, e4_has, e5_has, e1_has, e2_has, e3_has, e10_isParishU, e10_isPersonU, e10_isOrderU, le_p, tn0, tn1, tn2, tn3, tn4, tn5, tn6, gUp_n, gUp_s, upd_s, upd_n, nI_add, nI_1, nI_tn, nI_p1, if_true, if_false, bz0, not_true_eq_false, not_false_eq_true, true_and, and_true, ne_eq, and_self, li_7, li_13, li_49, li_59, li_69, li_79, li_89, li_99, li_109, li_119, li_129, li_153, li_177, li_201, li_225, li_249, li_273, li_297, li_321, li_333, li_345, li_357, li_369, li_389, li_409, li_429, li_449, li_469, li_489, li_5, lm_6, lm_20, lm_60, lm_4, w, k0, nI_l6, hn]
      · simp (disch := omega) [M_X10_parish, ↓gBd_s, ↓gNm_e, ↓b9_within, ↓b10_within, ↓b9_isDay, ↓b10_isDay, ↓b9_isWeek, ↓b10_isWeek, ↓b9_isSheet, ↓b10_isSheet, ↓b9_finding, ↓b10_finding, ↓b4_has, ↓b5_has, ↓b1_has, ↓b2_has, ↓b3_has, ↓b10_isParishU, ↓b10_isPersonU, ↓b10_isOrderU, ↓gIx_c0, ↓gIx_c1, ↓gIx_c2, ↓gIx_c3, ↓gIx_c4, ↓gIx_c5, ↓gIx_c6, ↓gIx_n, ↓gx_7, ↓gx_13, ↓gx_49, ↓gx_59, ↓gx_69, ↓gx_79, ↓gx_89, ↓gx_99, ↓gx_109, ↓gx_119, ↓gx_129, ↓gx_153, ↓gx_177, ↓gx_201, ↓gx_225, ↓gx_249, ↓gx_273, ↓gx_297, ↓gx_321, ↓gx_333, ↓gx_345, ↓gx_357, ↓gx_369, ↓gx_389, ↓gx_409, ↓gx_429, ↓gx_449, ↓gx_469, ↓gx_489, ↓gx_5, ↓ite_bz, e9_within, e10_within, e9_isDay, e10_isDay, e9_isWeek, e10_isWeek, e9_isSheet, e10_isSheet, e9_finding, e10_finding, e4_has, e5_has, e1_has, e2_has, e3_has, e10_isParishU, e10_isPersonU, e10_isOrderU, le_p, tn0, tn1, tn2, tn3, tn4, tn5, tn6, gUp_n, gUp_s, upd_s, upd_n, nI_add, nI_1, nI_tn, nI_p1, if_true, if_false, bz0, not_true_eq_false, not_false_eq_true, true_and, and_true, ne_eq, and_self, li_7, li_13, li_49, li_59, li_69, li_79, li_89, li_99, li_109, li_119, li_129, li_153, li_177, li_201, li_225, li_249, li_273, li_297, li_321, li_333, li_345, li_357, li_369, li_389, li_409, li_429, li_449, li_469, li_489, li_5, lm_6, lm_20, lm_60, lm_4, w, m0, nI_e6]
  · refine Agr.find h (-100001) ?_ ?_
    · simp (disch := omega) [M_X9_parish, ↓gBd_s, ↓gNm_e, ↓b9_within, ↓b10_within, ↓b9_isDay, ↓b10_isDay, ↓b9_isWeek, ↓b10_isWeek, ↓b9_isSheet, ↓b10_isSheet, ↓b9_finding, ↓b10_finding, ↓b4_has, ↓b5_has, ↓b1_has, ↓b2_has, ↓b3_has, ↓b10_isParishU, ↓b10_isPersonU, ↓b10_isOrderU, ↓gIx_c0, ↓gIx_c1, ↓gIx_c2, ↓gIx_c3, ↓gIx_c4, ↓gIx_c5, ↓gIx_c6, ↓gIx_n, ↓gx_7, ↓gx_13, ↓gx_49, ↓gx_59, ↓gx_69, ↓gx_79, ↓gx_89, ↓gx_99, ↓gx_109, ↓gx_119, ↓gx_129, ↓gx_153, ↓gx_177, ↓gx_201, ↓gx_225, ↓gx_249, ↓gx_273, ↓gx_297, ↓gx_321, ↓gx_333, ↓gx_345, ↓gx_357, ↓gx_369, ↓gx_389, ↓gx_409, ↓gx_429, ↓gx_449, ↓gx_469, ↓gx_489, ↓gx_5, ↓ite_bz, e9_within, e10_within, e9_isDay, e10_isDay, e9_isWeek, e10_isWeek, e9_isSheet, e10_isSheet, e9_finding, e10_finding, e4_has, e5_has, e1_has, e2_has, e3_has, e10_isParishU, e10_isPersonU, e10_isOrderU, le_p, tn0, tn1, tn2, tn3, tn4, tn5, tn6, gUp_n, gUp_s, upd_s, upd_n, nI_add, nI_1, nI_tn, nI_p1, if_true, if_false, bz0, not_true_eq_false, not_false_eq_true, true_and, and_true, ne_eq, and_self, li_7, li_13, li_49, li_59, li_69, li_79, li_89, li_99, li_109, li_119, li_129, li_153, li_177, li_201, li_225, li_249, li_273, li_297, li_321, li_333, li_345, li_357, li_369, li_389, li_409, li_429, li_449, li_469, li_489, li_5, lm_6, lm_20, lm_60, lm_4, w]
    · simp (disch := omega) [M_X10_parish, ↓gBd_s, ↓gNm_e, ↓b9_within, ↓b10_within, ↓b9_isDay, ↓b10_isDay, ↓b9_isWeek, ↓b10_isWeek, ↓b9_isSheet, ↓b10_isSheet, ↓b9_finding, ↓b10_finding, ↓b4_has, ↓b5_has, ↓b1_has, ↓b2_has, ↓b3_has, ↓b10_isParishU, ↓b10_isPersonU, ↓b10_isOrderU, ↓gIx_c0, ↓gIx_c1, ↓gIx_c2, ↓gIx_c3, ↓gIx_c4, ↓gIx_c5, ↓gIx_c6, ↓gIx_n, ↓gx_7, ↓gx_13, ↓gx_49, ↓gx_59, ↓gx_69, ↓gx_79, ↓gx_89, ↓gx_99, ↓gx_109, ↓gx_119, ↓gx_129, ↓gx_153, ↓gx_177, ↓gx_201, ↓gx_225, ↓gx_249, ↓gx_273, ↓gx_297, ↓gx_321, ↓gx_333, ↓gx_345, ↓gx_357, ↓gx_369, ↓gx_389, ↓gx_409, ↓gx_429, ↓gx_449, ↓gx_469, ↓gx_489, ↓gx_5, ↓ite_bz, e9_within, e10_within, e9_isDay, e10_isDay, e9_isWeek, e10_isWeek, e9_isSheet, e10_isSheet, e9_finding, e10_finding, e4_has, e5_has, e1_has, e2_has, e3_has, e10_isParishU, e10_isPersonU, e10_isOrderU, le_p, tn0, tn1, tn2, tn3, tn4, tn5, tn6, gUp_n, gUp_s, upd_s, upd_n, nI_add, nI_1, nI_tn, nI_p1, if_true, if_false, bz0, not_true_eq_false, not_false_eq_true, true_and, and_true, ne_eq, and_self, li_7, li_13, li_49, li_59, li_69, li_79, li_89, li_99, li_109, li_119, li_129, li_153, li_177, li_201, li_225, li_249, li_273, li_297, li_321, li_333, li_345, li_357, li_369, li_389, li_409, li_429, li_449, li_469, li_489, li_5, lm_6, lm_20, lm_60, lm_4, w]
