def bce (a1 : Int32) : Int32 := gNm ((a1 - (((a1.toUInt32 >>> ((1 : Int32).toUInt32 &&& Int32.toUInt32 31)).toInt32) &&& 1431655765)) : Int32) (fun x1 => gNm (((x1 &&& 858993459) + (((x1.toUInt32 >>> ((2 : Int32).toUInt32 &&& Int32.toUInt32 31)).toInt32) &&& 858993459)) : Int32) (fun x2 => gNm (((x2 + ((x2.toUInt32 >>> ((4 : Int32).toUInt32 &&& Int32.toUInt32 31)).toInt32)) &&& 252645135) : Int32) (fun x3 => gNm ((x3 + ((x3.toUInt32 >>> ((8 : Int32).toUInt32 &&& Int32.toUInt32 31)).toInt32)) : Int32) (fun x4 => gNm ((x4 + ((x4.toUInt32 >>> ((16 : Int32).toUInt32 &&& Int32.toUInt32 31)).toInt32)) : Int32) (fun x5 => (x5 &&& 63))))))
theorem bce_mb : ∀ m, m < 128 → bce (nI m) = mb (nI m) := by decide +kernel
theorem mb_lt : ∀ m, m < 128 → ¬ 8 ≤ mb (nI m) ∧ ¬ 100 ≤ mb (nI m) := by decide +kernel
theorem eJ_bitCount (a : Int32) (σ : gSt) : M_J6_bitCount_0f7a4 a σ = some (bce a, σ) := rfl
theorem l_mn {σ : gSt} (a : Int32) {K : Int32 → Int32 → gSt → gO} : ∀ (m i n : Nat) (acc : Int32), i + m = 7 → m < n → L1_X10_many a n (nI i) acc σ K = K (nI 7) (fo (fun j q => q + bt a j) m i acc) σ := by
  intro m
  induction m with
  | zero =>
    intro i n acc hi hn
    obtain ⟨n, rfl⟩ : ∃ k, n = k + 1 := ⟨n - 1, by omega⟩
    have e : i = 7 := by omega
    subst e
    rw [L1_X10_many, if_pos (show (7 : Int32) ≤ nI 7 by decide), fo]
  | succ m ih =>
    intro i n acc hi hn
    obtain ⟨n, rfl⟩ : ∃ k, n = k + 1 := ⟨n - 1, by omega⟩
    rw [L1_X10_many, if_neg (show ¬ (7 : Int32) ≤ nI i from nle (b := 7) (by omega) (by omega)), gNm_e, gNm_e, nI_1, fo]
    exact ih (i + 1) n _ (by omega) (by omega)
theorem e10_many (a : Int32) (σ : gSt) : M_X10_many a σ = some (mb a, σ) := by
  unfold M_X10_many
  exact l_mn a 7 0 gFu 0 (by omega) (fu _ (by omega))
theorem bt01 : ∀ w, w < 256 → ∀ k, k < 8 → bt (nI w) k = 0 ∨ bt (nI w) k = 1 := by decide +kernel
theorem or0 (x : Int32) : x ||| 0 = x := Int32.or_zero
/-- the worse half of a doubt -/
def mx (u : Nat → Int32) (W k : Nat) : Int32 := if mb (oz (z0 k) u W) < mb (oz (z1 k) u W) then mb (oz (z1 k) u W) else mb (oz (z0 k) u W)
/-- one step of the choice -/
def gq (d : Nat → Nat) (u : Nat → Int32) (W k : Nat) (s : Int32 × Int32) : Int32 × Int32 := if s.1 ≤ mx u W k then s else (mx u W k, nI (d k))
theorem mx_lt {u : Nat → Int32} (hu : ∀ w, ∃ m, m < 128 ∧ u w = nI m) (W k : Nat) : ¬ 8 ≤ mx u W k ∧ ¬ 100 ≤ mx u W k := by
  obtain ⟨m0, h0, e0⟩ := oz_lt hu W (b := z0 k)
  obtain ⟨m1, h1, e1⟩ := oz_lt hu W (b := z1 k)
  unfold mx
  rw [e0, e1]
  by_cases c : mb (nI m0) < mb (nI m1)
  · rw [if_pos c]; exact mb_lt m1 h1
  · rw [if_neg c]; exact mb_lt m0 h0
theorem gq_fst {d : Nat → Nat} {u : Nat → Int32} (hu : ∀ w, ∃ m, m < 128 ∧ u w = nI m) (W k : Nat) (x y : Int32) : gq d u W k (8, x) = gq d u W k (100, y) := by
  have := mx_lt hu W k
  unfold gq
  rw [if_neg this.1, if_neg this.2]
theorem gq_ans {d : Nat → Nat} {u : Nat → Int32} {W nd : Nat} (hd : ∀ k, k < nd → d k < 24) : ∀ (m i : Nat) (s : Int32 × Int32), i + m = nd → (∃ j, j < 24 ∧ s.2 = nI j) → ∃ j, j < 24 ∧ (fo (gq d u W) m i s).2 = nI j := by
  intro m
  induction m with
  | zero => intro i s _ hs; exact hs
  | succ m ih =>
    intro i s hi hs
    rw [fo]
    refine ih (i + 1) _ (by omega) ?_
    unfold gq
    by_cases c : s.1 ≤ mx u W i
    · rw [if_pos c]; exact hs
    · rw [if_neg c]; exact ⟨d i, hd i (by omega), rfl⟩
theorem e7_mostLeft {σ : gSt} {u : Nat → Int32} {W k : Nat} {x : Int32} (hu : ∀ w, ∃ m, m < 128 ∧ u w = nI m) (h1 : M_X7_setUpTo x σ = some (oz (z0 k) u W, σ)) (h2 : M_X7_setWithout x σ = some (oz (z1 k) u W, σ)) : M_X7_mostLeftBy x σ = some (mx u W k, σ) := by
  obtain ⟨m0, h0, x0⟩ := oz_lt hu W (b := z0 k)
  obtain ⟨m1, h1', x1⟩ := oz_lt hu W (b := z1 k)
  unfold M_X7_mostLeftBy mx
  rw [h1, gBd_s, eJ_bitCount, gBd_s, h2, gBd_s, eJ_bitCount, gBd_s, x0, x1, bce_mb m0 h0, bce_mb m1 h1']
theorem l_bq {σ : gSt} {N : Nat → Int32} {d : Nat → Nat} {u : Nat → Int32} {nf nd : Nat} (a1 a2 a3 : Int32) (hb : nf ≤ 24) (hd : Dl N nf nd d) (hu : ∀ w, ∃ m, m < 128 ∧ u w = nI m) (j17 : σ 17 0 = nI nf) (j25 : ∀ j, j < 24 → σ 25 j = N (297 + j)) (hs : ∀ k, k < nd → M_X7_setUpTo (nI (d k)) σ = some (oz (z0 k) u (2 ^ nd), σ) ∧ M_X7_setWithout (nI (d k)) σ = some (oz (z1 k) u (2 ^ nd), σ)) {K : Int32 → Int32 → Int32 → gSt → gO} : ∀ (m i n : Nat) (s : Int32 × Int32), i + m = nf → m < n → L5_X7_bestQuestion a1 a2 a3 n (nI i) s.1 s.2 σ K = K (nI nf) (fo (gq d u (2 ^ nd)) (nd - dc N i) (dc N i) s).1 (fo (gq d u (2 ^ nd)) (nd - dc N i) (dc N i) s).2 σ := by
  intro m
  induction m with
  | zero =>
    intro i n s hi hn
    obtain ⟨n, rfl⟩ : ∃ k, n = k + 1 := ⟨n - 1, by omega⟩
    have e : i = nf := by omega
    subst e
    rw [L5_X7_bestQuestion, j17, if_pos (nI_le (Nat.le_refl _) (by omega)), ← hd.1, Nat.sub_self, fo]
  | succ m ih =>
    intro i n s hi hn
    obtain ⟨n, rfl⟩ : ∃ k, n = k + 1 := ⟨n - 1, by omega⟩
    rw [L5_X7_bestQuestion, j17, if_neg (nle (by omega) (by omega)), e1_isDoubted σ (j := i) (by omega), gBd_s, j25 i (by omega)]
    by_cases y : N (297 + i) = 1
    · obtain ⟨q1, q2⟩ := hd.at (show i < nf by omega) y
      obtain ⟨s1, s2⟩ := hs (dc N i) q1
      rw [q2] at s1 s2
      rw [if_pos y, if_neg (show ¬ (1 : Int32) = 0 by decide), e7_mostLeft hu s1 s2, gBd_s, show nd - dc N i = (nd - dc N (i + 1)) + 1 by rw [dc_yes y]; omega, fo]
      by_cases c : s.1 ≤ mx u (2 ^ nd) (dc N i)
      · have e : gq d u (2 ^ nd) (dc N i) s = s := if_pos c
        rw [if_pos c, gNm_e, nI_1, e, ← dc_yes y]
        exact ih (i + 1) n s (by omega) (by omega)
      · have e : gq d u (2 ^ nd) (dc N i) s = (mx u (2 ^ nd) (dc N i), nI (d (dc N i))) := if_neg c
        rw [if_neg c, gNm_e, nI_1, e, q2, ← dc_yes y]
        exact ih (i + 1) n (mx u (2 ^ nd) (dc N i), nI i) (by omega) (by omega)
    · rw [if_neg y, if_pos (show (0 : Int32) = 0 from rfl), if_pos (show s.1 ≤ s.1 from (fa_le _ _).mpr (Int.le_refl _)), gNm_e, nI_1, ← dc_no y]
      exact ih (i + 1) n s (by omega) (by omega)
theorem l_q8 {σ : gSt} {u : Nat → Int32} {nd k : Nat} (b q a1 a2 a3 : Int32) (h8 : nd ≤ 8) (hk : k < 8) (e109 : ∀ w, w < 2 ^ nd → σ 109 w = u w) {K : Int32 → Int32 → Int32 → gSt → gO} : ∀ (m i n : Nat), i + m = 2 ^ nd → m < n → L8_X10_question (nI k) b q (nI nd) a1 a2 a3 n (nI i) (oz (z1 k) u i) (oz (z0 k) u i) σ K = K (nI (2 ^ nd)) (oz (z1 k) u (2 ^ nd)) (oz (z0 k) u (2 ^ nd)) σ := by
  have hp := p2b nd h8
  intro m
  induction m with
  | zero =>
    intro i n hi hn
    obtain ⟨n, rfl⟩ : ∃ k, n = k + 1 := ⟨n - 1, by omega⟩
    have e : i = 2 ^ nd := by omega
    subst e
    rw [L8_X10_question, p2w nd h8, if_pos (nI_le (Nat.le_refl _) (by omega))]
  | succ m ih =>
    intro i n hi hn
    obtain ⟨n, rfl⟩ : ∃ k, n = k + 1 := ⟨n - 1, by omega⟩
    have := ih (i + 1) n (by omega) (by omega)
    rw [L8_X10_question, p2w nd h8, if_neg (nle (by omega) (by omega))]
    have fold : (nI i >>> (nI k &&& 31)) &&& 1 = bt (nI i) k := rfl
    rw [fold]
    rw [oz, oz] at this
    rcases bt01 i (by omega) k hk with y | y
    · rw [if_pos (show z0 k i = true from decide_eq_true y), if_neg (show ¬ z1 k i = true by unfold z1; simp [y])] at this
      rw [y, if_pos rfl, gIx_n (by omega) (by omega), gNm_e, if_neg (show ¬ (0 : Int32) = 1 by decide), gNm_e, gNm_e, nI_tn (by omega), nI_1, e109 i (by omega), or0]
      exact this
    · have y' : ¬ bt (nI i) k = 0 := by rw [y]; decide
      rw [if_neg (show ¬ z0 k i = true from fun q => y' (of_decide_eq_true q)), if_pos (show z1 k i = true by unfold z1; simp [y'])] at this
      rw [y, if_neg (show ¬ (1 : Int32) = 0 by decide), gNm_e, if_pos rfl, gIx_n (by omega) (by omega), gNm_e, gNm_e, nI_tn (by omega), nI_1, e109 i (by omega), or0]
      exact this
theorem l_q6 {σ : gSt} {d : Nat → Nat} {u : Nat → Int32} {nd : Nat} (a1 a2 a3 : Int32) (h8 : nd ≤ 8) (e108 : ∀ k, k < nd → σ 108 k = nI (d k)) (e109 : ∀ w, w < 2 ^ nd → σ 109 w = u w) {K : Int32 → Int32 → Int32 → gSt → gO} : ∀ (m i n : Nat) (s : Int32 × Int32), i + m = nd → m < n → L6_X10_question (nI nd) a1 a2 a3 n (nI i) s.1 s.2 σ K = K (nI nd) (fo (gq d u (2 ^ nd)) m i s).1 (fo (gq d u (2 ^ nd)) m i s).2 σ := by
  have hp := p2b nd h8
  intro m
  induction m with
  | zero =>
    intro i n s hi hn
    obtain ⟨n, rfl⟩ : ∃ k, n = k + 1 := ⟨n - 1, by omega⟩
    have e : i = nd := by omega
    subst e
    rw [L6_X10_question, if_pos (nI_le (Nat.le_refl _) (by omega)), fo]
  | succ m ih =>
    intro i n s hi hn
    obtain ⟨n, rfl⟩ : ∃ k, n = k + 1 := ⟨n - 1, by omega⟩
    have L := fun K => l_q8 (σ := σ) (u := u) (k := i) s.1 s.2 a1 a2 a3 h8 (by omega) e109 (K := K) (2 ^ nd) 0 gFu (by omega) (fu _ (by omega))
    rw [show nI 0 = 0 from rfl, show oz (z1 i) u 0 = 0 from rfl, show oz (z0 i) u 0 = 0 from rfl] at L
    rw [L6_X10_question, if_neg (nle (by omega) (by omega)), L, e10_many, gBd_s, e10_many, gBd_s, gNm_e, show (if mb (oz (z0 i) u (2 ^ nd)) < mb (oz (z1 i) u (2 ^ nd)) then mb (oz (z1 i) u (2 ^ nd)) else mb (oz (z0 i) u (2 ^ nd))) = mx u (2 ^ nd) i from rfl, fo]
    by_cases c : s.1 ≤ mx u (2 ^ nd) i
    · have e : gq d u (2 ^ nd) i s = s := if_pos c
      rw [if_pos c, gNm_e, nI_1, e]
      exact ih (i + 1) n s (by omega) (by omega)
    · have e : gq d u (2 ^ nd) i s = (mx u (2 ^ nd) i, nI (d i)) := if_neg c
      rw [if_neg c, gIx_n (by omega) (by omega), gNm_e, gNm_e, nI_1, nI_tn (by omega), e108 i (by omega), e]
      exact ih (i + 1) n (mx u (2 ^ nd) i, nI (d i)) (by omega) (by omega)
theorem t_question (a1 a2 a3 : Int32) {σ : gSt} (h : Inv σ) : Agr (M_X9_question a1 a2 a3) (M_X10_question a1 a2 a3) σ := by
  obtain ⟨np, nq, nf, nl, no, hR, hC, hX, ⟨k0, k1, k2, k3, k4⟩, ⟨m0, m1, m2, m3, m4⟩, ⟨b0, b1, b2, b3, b4⟩⟩ := h.nums
  rcases ix_or a1 (n := nq) (by omega) with ⟨p, hp, rfl⟩ | v1
  rotate_left
  · exact Agr.find h (-100001) (by simp (disch := omega) [M_X9_question, ↓gBd_s, ↓gNm_e, ↓b9_within, ↓b10_within, ↓b9_isDay, ↓b10_isDay, ↓b9_isWeek, ↓b10_isWeek, ↓b9_isSheet, ↓b10_isSheet, ↓b9_finding, ↓b10_finding, ↓b4_has, ↓b5_has, ↓b1_has, ↓b2_has, ↓b3_has, ↓b10_isParishU, ↓b10_isPersonU, ↓b10_isOrderU, ↓gIx_c0, ↓gIx_c1, ↓gIx_c2, ↓gIx_c3, ↓gIx_c4, ↓gIx_c5, ↓gIx_c6, ↓gIx_n, ↓gx_7, ↓gx_13, ↓gx_49, ↓gx_59, ↓gx_69, ↓gx_79, ↓gx_89, ↓gx_99, ↓gx_109, ↓gx_119, ↓gx_129, ↓gx_153, ↓gx_177, ↓gx_201, ↓gx_225, ↓gx_249, ↓gx_273, ↓gx_297, ↓gx_321, ↓gx_333, ↓gx_345, ↓gx_357, ↓gx_369, ↓gx_389, ↓gx_409, ↓gx_429, ↓gx_449, ↓gx_469, ↓gx_489, ↓gx_5, ↓ite_bz, e9_within, e10_within, e9_isDay, e10_isDay, e9_isWeek, e10_isWeek, e9_isSheet, e10_isSheet, e9_finding, e10_finding, e4_has, e5_has, e1_has, e2_has, e3_has, e10_isParishU, e10_isPersonU, e10_isOrderU, le_p, tn0, tn1, tn2, tn3, tn4, tn5, tn6, gUp_n, gUp_s, upd_s, upd_n, nI_add, nI_1, nI_tn, nI_p1, if_true, if_false, bz0, not_true_eq_false, not_false_eq_true, true_and, and_true, ne_eq, and_self, li_7, li_13, li_49, li_59, li_69, li_79, li_89, li_99, li_109, li_119, li_129, li_153, li_177, li_201, li_225, li_249, li_273, li_297, li_321, li_333, li_345, li_357, li_369, li_389, li_409, li_429, li_449, li_469, li_489, li_5, lm_6, lm_20, lm_60, lm_4, ↓b9_canReckon, ↓b10_canAsk, k0, k1, k2, k3, k4, m0, m1, m2, m3, m4, v1]) (by simp (disch := omega) [M_X10_question, ↓gBd_s, ↓gNm_e, ↓b9_within, ↓b10_within, ↓b9_isDay, ↓b10_isDay, ↓b9_isWeek, ↓b10_isWeek, ↓b9_isSheet, ↓b10_isSheet, ↓b9_finding, ↓b10_finding, ↓b4_has, ↓b5_has, ↓b1_has, ↓b2_has, ↓b3_has, ↓b10_isParishU, ↓b10_isPersonU, ↓b10_isOrderU, ↓gIx_c0, ↓gIx_c1, ↓gIx_c2, ↓gIx_c3, ↓gIx_c4, ↓gIx_c5, ↓gIx_c6, ↓gIx_n, ↓gx_7, ↓gx_13, ↓gx_49, ↓gx_59, ↓gx_69, ↓gx_79, ↓gx_89, ↓gx_99, ↓gx_109, ↓gx_119, ↓gx_129, ↓gx_153, ↓gx_177, ↓gx_201, ↓gx_225, ↓gx_249, ↓gx_273, ↓gx_297, ↓gx_321, ↓gx_333, ↓gx_345, ↓gx_357, ↓gx_369, ↓gx_389, ↓gx_409, ↓gx_429, ↓gx_449, ↓gx_469, ↓gx_489, ↓gx_5, ↓ite_bz, e9_within, e10_within, e9_isDay, e10_isDay, e9_isWeek, e10_isWeek, e9_isSheet, e10_isSheet, e9_finding, e10_finding, e4_has, e5_has, e1_has, e2_has, e3_has, e10_isParishU, e10_isPersonU, e10_isOrderU, le_p, tn0, tn1, tn2, tn3, tn4, tn5, tn6, gUp_n, gUp_s, upd_s, upd_n, nI_add, nI_1, nI_tn, nI_p1, if_true, if_false, bz0, not_true_eq_false, not_false_eq_true, true_and, and_true, ne_eq, and_self, li_7, li_13, li_49, li_59, li_69, li_79, li_89, li_99, li_109, li_119, li_129, li_153, li_177, li_201, li_225, li_249, li_273, li_297, li_321, li_333, li_345, li_357, li_369, li_389, li_409, li_429, li_449, li_469, li_489, li_5, lm_6, lm_20, lm_60, lm_4, ↓b9_canReckon, ↓b10_canAsk, k0, k1, k2, k3, k4, m0, m1, m2, m3, m4, v1])
  have v1 := ix_ok hp (by omega)
  by_cases w2 : 0 ≤ a2 ∧ a2 ≤ 9999
  rotate_left
  · exact Agr.find h (-100001) (by simp (disch := omega) [M_X9_question, ↓gBd_s, ↓gNm_e, ↓b9_within, ↓b10_within, ↓b9_isDay, ↓b10_isDay, ↓b9_isWeek, ↓b10_isWeek, ↓b9_isSheet, ↓b10_isSheet, ↓b9_finding, ↓b10_finding, ↓b4_has, ↓b5_has, ↓b1_has, ↓b2_has, ↓b3_has, ↓b10_isParishU, ↓b10_isPersonU, ↓b10_isOrderU, ↓gIx_c0, ↓gIx_c1, ↓gIx_c2, ↓gIx_c3, ↓gIx_c4, ↓gIx_c5, ↓gIx_c6, ↓gIx_n, ↓gx_7, ↓gx_13, ↓gx_49, ↓gx_59, ↓gx_69, ↓gx_79, ↓gx_89, ↓gx_99, ↓gx_109, ↓gx_119, ↓gx_129, ↓gx_153, ↓gx_177, ↓gx_201, ↓gx_225, ↓gx_249, ↓gx_273, ↓gx_297, ↓gx_321, ↓gx_333, ↓gx_345, ↓gx_357, ↓gx_369, ↓gx_389, ↓gx_409, ↓gx_429, ↓gx_449, ↓gx_469, ↓gx_489, ↓gx_5, ↓ite_bz, e9_within, e10_within, e9_isDay, e10_isDay, e9_isWeek, e10_isWeek, e9_isSheet, e10_isSheet, e9_finding, e10_finding, e4_has, e5_has, e1_has, e2_has, e3_has, e10_isParishU, e10_isPersonU, e10_isOrderU, le_p, tn0, tn1, tn2, tn3, tn4, tn5, tn6, gUp_n, gUp_s, upd_s, upd_n, nI_add, nI_1, nI_tn, nI_p1, if_true, if_false, bz0, not_true_eq_false, not_false_eq_true, true_and, and_true, ne_eq, and_self, li_7, li_13, li_49, li_59, li_69, li_79, li_89, li_99, li_109, li_119, li_129, li_153, li_177, li_201, li_225, li_249, li_273, li_297, li_321, li_333, li_345, li_357, li_369, li_389, li_409, li_429, li_449, li_469, li_489, li_5, lm_6, lm_20, lm_60, lm_4, ↓b9_canReckon, ↓b10_canAsk, k0, k1, k2, k3, k4, m0, m1, m2, m3, m4, v1, w2]) (by simp (disch := omega) [M_X10_question, ↓gBd_s, ↓gNm_e, ↓b9_within, ↓b10_within, ↓b9_isDay, ↓b10_isDay, ↓b9_isWeek, ↓b10_isWeek, ↓b9_isSheet, ↓b10_isSheet, ↓b9_finding, ↓b10_finding, ↓b4_has, ↓b5_has, ↓b1_has, ↓b2_has, ↓b3_has, ↓b10_isParishU, ↓b10_isPersonU, ↓b10_isOrderU, ↓gIx_c0, ↓gIx_c1, ↓gIx_c2, ↓gIx_c3, ↓gIx_c4, ↓gIx_c5, ↓gIx_c6, ↓gIx_n, ↓gx_7, ↓gx_13, ↓gx_49, ↓gx_59, ↓gx_69, ↓gx_79, ↓gx_89, ↓gx_99, ↓gx_109, ↓gx_119, ↓gx_129, ↓gx_153, ↓gx_177, ↓gx_201, ↓gx_225, ↓gx_249, ↓gx_273, ↓gx_297, ↓gx_321, ↓gx_333, ↓gx_345, ↓gx_357, ↓gx_369, ↓gx_389, ↓gx_409, ↓gx_429, ↓gx_449, ↓gx_469, ↓gx_489, ↓gx_5, ↓ite_bz, e9_within, e10_within, e9_isDay, e10_isDay, e9_isWeek, e10_isWeek, e9_isSheet, e10_isSheet, e9_finding, e10_finding, e4_has, e5_has, e1_has, e2_has, e3_has, e10_isParishU, e10_isPersonU, e10_isOrderU, le_p, tn0, tn1, tn2, tn3, tn4, tn5, tn6, gUp_n, gUp_s, upd_s, upd_n, nI_add, nI_1, nI_tn, nI_p1, if_true, if_false, bz0, not_true_eq_false, not_false_eq_true, true_and, and_true, ne_eq, and_self, li_7, li_13, li_49, li_59, li_69, li_79, li_89, li_99, li_109, li_119, li_129, li_153, li_177, li_201, li_225, li_249, li_273, li_297, li_321, li_333, li_345, li_357, li_369, li_389, li_409, li_429, li_449, li_469, li_489, li_5, lm_6, lm_20, lm_60, lm_4, ↓b9_canReckon, ↓b10_canAsk, k0, k1, k2, k3, k4, m0, m1, m2, m3, m4, v1, w2])
  by_cases w3 : 0 ≤ a3 ∧ a3 ≤ 9999
  rotate_left
  · exact Agr.find h (-100001) (by simp (disch := omega) [M_X9_question, ↓gBd_s, ↓gNm_e, ↓b9_within, ↓b10_within, ↓b9_isDay, ↓b10_isDay, ↓b9_isWeek, ↓b10_isWeek, ↓b9_isSheet, ↓b10_isSheet, ↓b9_finding, ↓b10_finding, ↓b4_has, ↓b5_has, ↓b1_has, ↓b2_has, ↓b3_has, ↓b10_isParishU, ↓b10_isPersonU, ↓b10_isOrderU, ↓gIx_c0, ↓gIx_c1, ↓gIx_c2, ↓gIx_c3, ↓gIx_c4, ↓gIx_c5, ↓gIx_c6, ↓gIx_n, ↓gx_7, ↓gx_13, ↓gx_49, ↓gx_59, ↓gx_69, ↓gx_79, ↓gx_89, ↓gx_99, ↓gx_109, ↓gx_119, ↓gx_129, ↓gx_153, ↓gx_177, ↓gx_201, ↓gx_225, ↓gx_249, ↓gx_273, ↓gx_297, ↓gx_321, ↓gx_333, ↓gx_345, ↓gx_357, ↓gx_369, ↓gx_389, ↓gx_409, ↓gx_429, ↓gx_449, ↓gx_469, ↓gx_489, ↓gx_5, ↓ite_bz, e9_within, e10_within, e9_isDay, e10_isDay, e9_isWeek, e10_isWeek, e9_isSheet, e10_isSheet, e9_finding, e10_finding, e4_has, e5_has, e1_has, e2_has, e3_has, e10_isParishU, e10_isPersonU, e10_isOrderU, le_p, tn0, tn1, tn2, tn3, tn4, tn5, tn6, gUp_n, gUp_s, upd_s, upd_n, nI_add, nI_1, nI_tn, nI_p1, if_true, if_false, bz0, not_true_eq_false, not_false_eq_true, true_and, and_true, ne_eq, and_self, li_7, li_13, li_49, li_59, li_69, li_79, li_89, li_99, li_109, li_119, li_129, li_153, li_177, li_201, li_225, li_249, li_273, li_297, li_321, li_333, li_345, li_357, li_369, li_389, li_409, li_429, li_449, li_469, li_489, li_5, lm_6, lm_20, lm_60, lm_4, ↓b9_canReckon, ↓b10_canAsk, k0, k1, k2, k3, k4, m0, m1, m2, m3, m4, v1, w2, w3]) (by simp (disch := omega) [M_X10_question, ↓gBd_s, ↓gNm_e, ↓b9_within, ↓b10_within, ↓b9_isDay, ↓b10_isDay, ↓b9_isWeek, ↓b10_isWeek, ↓b9_isSheet, ↓b10_isSheet, ↓b9_finding, ↓b10_finding, ↓b4_has, ↓b5_has, ↓b1_has, ↓b2_has, ↓b3_has, ↓b10_isParishU, ↓b10_isPersonU, ↓b10_isOrderU, ↓gIx_c0, ↓gIx_c1, ↓gIx_c2, ↓gIx_c3, ↓gIx_c4, ↓gIx_c5, ↓gIx_c6, ↓gIx_n, ↓gx_7, ↓gx_13, ↓gx_49, ↓gx_59, ↓gx_69, ↓gx_79, ↓gx_89, ↓gx_99, ↓gx_109, ↓gx_119, ↓gx_129, ↓gx_153, ↓gx_177, ↓gx_201, ↓gx_225, ↓gx_249, ↓gx_273, ↓gx_297, ↓gx_321, ↓gx_333, ↓gx_345, ↓gx_357, ↓gx_369, ↓gx_389, ↓gx_409, ↓gx_429, ↓gx_449, ↓gx_469, ↓gx_489, ↓gx_5, ↓ite_bz, e9_within, e10_within, e9_isDay, e10_isDay, e9_isWeek, e10_isWeek, e9_isSheet, e10_isSheet, e9_finding, e10_finding, e4_has, e5_has, e1_has, e2_has, e3_has, e10_isParishU, e10_isPersonU, e10_isOrderU, le_p, tn0, tn1, tn2, tn3, tn4, tn5, tn6, gUp_n, gUp_s, upd_s, upd_n, nI_add, nI_1, nI_tn, nI_p1, if_true, if_false, bz0, not_true_eq_false, not_false_eq_true, true_and, and_true, ne_eq, and_self, li_7, li_13, li_49, li_59, li_69, li_79, li_89, li_99, li_109, li_119, li_129, li_153, li_177, li_201, li_225, li_249, li_273, li_297, li_321, li_333, li_345, li_357, li_369, li_389, li_409, li_429, li_449, li_469, li_489, li_5, lm_6, lm_20, lm_60, lm_4, ↓b9_canReckon, ↓b10_canAsk, k0, k1, k2, k3, k4, m0, m1, m2, m3, m4, v1, w2, w3])
  have ca : (0 ≤ nI p ∧ nI p < nI nq) ∧ (0 ≤ a2 ∧ a2 ≤ 9999) ∧ (0 ≤ a3 ∧ a3 ≤ 9999) := ⟨⟨v1.1, v1.2.1⟩, w2, w3⟩
  have cb : (0 ≤ nI p ∧ nI p ≤ nI nq - 1) ∧ (0 ≤ a2 ∧ a2 ≤ 9999) ∧ (0 ≤ a3 ∧ a3 ≤ 9999) := ⟨⟨v1.1, v1.2.2.2.2.2.1⟩, w2, w3⟩
  obtain ⟨nf9, nd, d, u, n8, nf24, hdl, hd24, hu, hcd, ⟨σ1, σ2, q1, q2, f2, j17, j25, s1, s2⟩, rf⟩ := h.ways a2 a3 m1 b1 hp
  have hpw := p2b nd n8
  rcases Nat.eq_zero_or_pos nd with z | z
  · subst z
    obtain ⟨σ3, g1, g2, g3, g4, g5⟩ := rf (gF σ) (by simp (disch := omega) only [gUp_n, gUp_s])
    refine ⟨-100006, gF σ, gFm σ3, ?_, ?_, h.findS (σ' := σ) (Scr.out g1 g2)⟩
    · unfold M_X9_question
      rw [b9_canReckon, k1, if_pos ca, if_neg (show ¬ (1 : Int32) = 0 by decide), hcd, gBd_s, if_pos (show nI 0 = 0 from rfl), e9_finding, gBd_s]
    · unfold M_X10_question
      rw [b10_canAsk, show gF σ 102 1 = nI nq by rw [gF, gUp_n (by decide)]; exact m1, if_pos cb, if_neg (show ¬ (1 : Int32) = 0 by decide), g5, gBd_s]
      have L := l_q6 (σ := σ3) (d := d) (u := u) (nI p) a2 a3 n8 g3 g4 (K := fun _ _ z42 σ43 => if 0 ≤ z42 then (some (z42, σ43)) else (gBd (M_X10_finding (-100006) σ43) (fun r46 σ45 => some (r46, σ45)))) 0 0 gFu (100, -1) (by omega) (fu _ (by omega))
      rw [fo, if_neg (show ¬ (0 : Int32) ≤ -1 by decide), e10_finding, gBd_s] at L
      exact L
  · have e102 : σ2 102 = σ 102 := f2 102 (by omega)
    obtain ⟨σ3, g1, g2, g3, g4, g5⟩ := rf σ2 e102
    have key : fo (gq d u (2 ^ nd)) nd 0 (8, -100006) = fo (gq d u (2 ^ nd)) nd 0 (100, -1) := by
      obtain ⟨n, rfl⟩ : ∃ n, nd = n + 1 := ⟨nd - 1, by omega⟩
      rw [fo, fo, gq_fst hu (2 ^ (n + 1)) 0 (-100006) (-1)]
    obtain ⟨j, hj, ej⟩ : ∃ j, j < 24 ∧ (fo (gq d u (2 ^ nd)) nd 0 (100, -1)).2 = nI j := by
      obtain ⟨n, rfl⟩ : ∃ n, nd = n + 1 := ⟨nd - 1, by omega⟩
      rw [fo]
      refine gq_ans (nd := n + 1) hd24 n 1 _ (by omega) ⟨d 0, hd24 0 (by omega), ?_⟩
      unfold gq
      rw [if_neg (mx_lt hu _ _).2]
    refine ⟨nI j, σ2, σ3, ?_, ?_, h.scr ((Scr.of2 f2).trans (Scr.out g1 g2))⟩
    · unfold M_X9_question M_X7_bestQuestion
      have L := l_bq (σ := σ2) (N := σ 102) (d := d) (u := u) (nI p) a2 a3 nf24 hdl hu j17 j25 s2 (K := fun _ _ z20 σ21 => some (z20, σ21)) nf9 0 gFu (8, -100006) (by omega) (fu _ (by omega))
      rw [show dc (σ 102) 0 = 0 from rfl, Nat.sub_zero, key, ej] at L
      rw [b9_canReckon, k1, if_pos ca, if_neg (show ¬ (1 : Int32) = 0 by decide), hcd, gBd_s, if_neg (nI_ne0 z (by omega)), q1, gBd_s, q2, gBd_s]
      exact (congrArg (fun o => gBd o (fun r8 σ7 => some (r8, σ7))) L).trans gBd_s
    · unfold M_X10_question
      have L := l_q6 (σ := σ3) (d := d) (u := u) (nI p) a2 a3 n8 g3 g4 (K := fun _ _ z42 σ43 => if 0 ≤ z42 then (some (z42, σ43)) else (gBd (M_X10_finding (-100006) σ43) (fun r46 σ45 => some (r46, σ45)))) nd 0 gFu (100, -1) (by omega) (fu _ (by omega))
      rw [ej, if_pos (nI_pos' (by omega))] at L
      rw [b10_canAsk, show σ2 102 1 = nI nq by rw [e102]; exact m1, if_pos cb, if_neg (show ¬ (1 : Int32) = 0 by decide), g5, gBd_s]
      exact L
