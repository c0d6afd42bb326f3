theorem gUp_2 {σ : gSt} {k j : Nat} {a b : Int32} : gUp (gUp σ k j a) k j b = gUp σ k j b := by
  funext q
  by_cases e : q = k
  · subst e
    rw [gUp_s, gUp_s, gUp_s, fa_upd_twice]
  · rw [gUp_n e, gUp_n e, gUp_n e]
/-- the reference's list -/
theorem l_rl {σ : gSt} {nf nd : Nat} {d : Nat → Nat} (a1 a2 a3 : Int32) (h2 : σ 102 2 = nI nf) (hb : nf ≤ 24) (hd : Dl (σ 102) nf nd d) :
    ∀ (m i n : Nat) (σ' : gSt), i + m = nf → m < n → (∀ q, q ≠ 108 → σ' q = σ q) → (∀ k, k < dc (σ 102) i → σ' 108 k = nI (d k)) → ∃ σ'', (∀ q, q ≠ 108 → σ'' q = σ q) ∧ (∀ k, k < nd → σ'' 108 k = nI (d k)) ∧ ∀ K, L1_X10_findOutcomes a1 a2 a3 n (nI i) (nI (dc (σ 102) i)) σ' K = K (nI nf) (nI nd) σ'' := by
  intro m
  induction m with
  | zero =>
    intro i n σ' hi hn hf h8
    obtain ⟨n, rfl⟩ : ∃ k, n = k + 1 := ⟨n - 1, by omega⟩
    have e : i = nf := by omega
    subst e
    refine ⟨σ', hf, by rw [hd.1]; exact h8, fun K => ?_⟩
    rw [L1_X10_findOutcomes, gIx_c2, tn2, hf 102 (by decide), h2, if_pos (nI_le (Nat.le_refl _) (by omega)), hd.1]
  | succ m ih =>
    intro i n σ' hi hn hf h8
    obtain ⟨n, rfl⟩ : ∃ k, n = k + 1 := ⟨n - 1, by omega⟩
    by_cases y : σ 102 (297 + i) = 1
    · obtain ⟨q1, q2⟩ := hd.at (show i < nf by omega) y
      have d8 := hd.2.1
      obtain ⟨σ'', p1, p2, p3⟩ := ih (i + 1) n (gUp σ' 108 (dc (σ 102) i) (nI i)) (by omega) (by omega) (fun q hq => by rw [gUp_n hq]; exact hf q hq) (fun k hk => by
        rw [dc_yes y] at hk
        rw [gUp_s]
        by_cases e : k = dc (σ 102) i
        · rw [e, upd_s, q2]
        · rw [upd_n e]; exact h8 k (by omega))
      refine ⟨σ'', p1, p2, fun K => ?_⟩
      rw [L1_X10_findOutcomes, gIx_c2, tn2, hf 102 (by decide), h2, if_neg (nle (by omega) (by omega)), gx_297 (by omega) (by omega), li_297, nI_tn (by omega), if_pos y, gIx_n (by omega) (by omega), gNm_e, gNm_e, gNm_e, nI_tn (by omega), nI_1, nI_1, ← dc_yes y]
      exact p3 K
    · obtain ⟨σ'', p1, p2, p3⟩ := ih (i + 1) n σ' (by omega) (by omega) hf (by rw [dc_no y]; exact h8)
      refine ⟨σ'', p1, p2, fun K => ?_⟩
      rw [L1_X10_findOutcomes, gIx_c2, tn2, hf 102 (by decide), h2, if_neg (nle (by omega) (by omega)), gx_297 (by omega) (by omega), li_297, nI_tn (by omega), if_neg y, gNm_e, nI_1, ← dc_no y]
      exact p3 K
theorem l_rm {σ : gSt} {nd : Nat} {d : Nat → Nat} (w a1 a2 a3 : Int32) (h8 : nd ≤ 8) (e108 : ∀ k, k < nd → σ 108 k = nI (d k)) {K : Int32 → gSt → gO} : ∀ (m i n : Nat) (a : Int32), i + m = nd → m < n → L17_X10_findOutcomes w (nI nd) a1 a2 a3 n (nI i) (gUp σ 101 7 a) K = K (nI nd) (gUp σ 101 7 (fo (fun k m => m ||| (bt w k <<< (nI (d k) &&& 31))) m i a)) := by
  intro m
  induction m with
  | zero =>
    intro i n a hi hn
    obtain ⟨n, rfl⟩ : ∃ k, n = k + 1 := ⟨n - 1, by omega⟩
    have e : i = nd := by omega
    subst e
    rw [L17_X10_findOutcomes, if_pos (nI_le (Nat.le_refl _) (by omega)), fo]
  | succ m ih =>
    intro i n a hi hn
    obtain ⟨n, rfl⟩ : ∃ k, n = k + 1 := ⟨n - 1, by omega⟩
    rw [L17_X10_findOutcomes, if_neg (nle (by omega) (by omega)), gIx_n (by omega) (by omega), gNm_e, gNm_e, nI_tn (by omega), nI_1, gUp_2, gUp_s, upd_s, gUp_n (show 108 ≠ 101 by decide), e108 i (by omega), fo]
    exact ih (i + 1) n _ (by omega) (by omega)
theorem l_ro {σ : gSt} {nd : Nat} {d : Nat → Nat} {rs : Int32 → Int32} (a1 a2 a3 : Int32) (h8 : nd ≤ 8) (e108 : ∀ k, k < nd → σ 108 k = nI (d k)) (hrs : ∀ m, rs m = -1 ∨ ∃ k, k ≤ 5 ∧ rs m = nI k) (hS : ∀ σ', σ' 102 = σ 102 → ∃ σ'', (∀ q, q ≠ 101 → q ≠ 107 → σ'' q = σ' q) ∧ (∀ i, i ≠ 9 → σ'' 101 i = σ' 101 i) ∧ M_X10_settlementOf a1 a2 a3 σ' = some (rs (σ' 101 7), σ'')) :
    ∀ (m i n : Nat) (σ' : gSt), i + m = 2 ^ nd → m < n → (∀ q, q ≠ 101 → q ≠ 107 → q ≠ 109 → σ' q = σ q) → (∀ j, j ≠ 7 → j ≠ 9 → σ' 101 j = σ 101 j) → (∀ w, w < i → σ' 109 w = ob (rs (mk d nd (nI w)))) → ∃ σ'', (∀ q, q ≠ 101 → q ≠ 107 → q ≠ 109 → σ'' q = σ q) ∧ (∀ j, j ≠ 7 → j ≠ 9 → σ'' 101 j = σ 101 j) ∧ (∀ w, w < 2 ^ nd → σ'' 109 w = ob (rs (mk d nd (nI w)))) ∧ ∀ K, L14_X10_findOutcomes (nI nd) a1 a2 a3 n (nI i) σ' K = K (nI (2 ^ nd)) σ'' := by
  have hp := p2b nd h8
  intro m
  induction m with
  | zero =>
    intro i n σ' hi hn f1 f2 f3
    obtain ⟨n, rfl⟩ : ∃ k, n = k + 1 := ⟨n - 1, by omega⟩
    have e : i = 2 ^ nd := by omega
    subst e
    refine ⟨σ', f1, f2, f3, fun K => ?_⟩
    rw [L14_X10_findOutcomes, p2w nd h8, if_pos (nI_le (Nat.le_refl _) (by omega))]
  | succ m ih =>
    intro i n σ' hi hn f1 f2 f3
    obtain ⟨n, rfl⟩ : ∃ k, n = k + 1 := ⟨n - 1, by omega⟩
    obtain ⟨σ2, r1, r2, r3⟩ := hS (gUp σ' 101 7 (mk d nd (nI i))) (by rw [gUp_n (by decide)]; exact f1 102 (by decide) (by decide) (by decide))
    rw [gUp_s, upd_s] at r3
    obtain ⟨σ'', p1, p2, p3, p4⟩ := ih (i + 1) n (gUp σ2 109 i (ob (rs (mk d nd (nI i))))) (by omega) (by omega) (fun q a b c => by rw [gUp_n c, r1 q a b, gUp_n a]; exact f1 q a b c) (fun j a b => by rw [gUp_n (by decide), r2 j b, gUp_s, upd_n a]; exact f2 j a b) (fun w hw => by
      rw [gUp_s]
      by_cases e : w = i
      · rw [e, upd_s]
      · rw [upd_n e, r1 109 (by decide) (by decide), gUp_n (by decide)]
        exact f3 w (by omega))
    refine ⟨σ'', p1, p2, p3, fun K => ?_⟩
    have lm := fun K => l_rm (σ := σ') (d := d) (nI i) a1 a2 a3 h8 (fun k hk => by rw [f1 108 (by decide) (by decide) (by decide)]; exact e108 k hk) (K := K) nd 0 gFu 0 (by omega) (fu _ (by omega))
    rw [L14_X10_findOutcomes, p2w nd h8, if_neg (nle (by omega) (by omega)), gNm_e]
    rw [nI_0] at lm
    rw [lm]
    rw [show fo (fun k m => m ||| (bt (nI i) k <<< (nI (d k) &&& 31))) nd 0 0 = mk d nd (nI i) from rfl, r3, gBd_s]
    rcases hrs (mk d nd (nI i)) with e | ⟨k, hk, e⟩
    · have eo : ob (rs (mk d nd (nI i))) = 64 := if_pos e
      rw [eo] at p4
      rw [e, if_neg (show ¬ (0 : Int32) ≤ -1 by decide), gIx_n (by omega) (by omega), gNm_e, gNm_e, nI_tn (by omega), nI_1]
      exact p4 K
    · have eo : ob (rs (mk d nd (nI i))) = 1 <<< (rs (mk d nd (nI i)) &&& 31) := if_neg (by rw [e]; exact nIm1 (by omega))
      rw [eo] at p4
      rw [if_pos (show 0 ≤ rs (mk d nd (nI i)) by rw [e]; exact nI_pos' (by omega)), gIx_n (by omega) (by omega), gNm_e, gNm_e, nI_tn (by omega), nI_1]
      exact p4 K
/-- all outcomes, as the reference finds them -/
theorem e10_findOutcomes {σ : gSt} {nf nd : Nat} {d : Nat → Nat} {rs : Int32 → Int32} (a1 a2 a3 : Int32) (h2 : σ 102 2 = nI nf) (hb : nf ≤ 24) (hd : Dl (σ 102) nf nd d) (hrs : ∀ m, rs m = -1 ∨ ∃ k, k ≤ 5 ∧ rs m = nI k) (hS : ∀ σ', σ' 102 = σ 102 → ∃ σ'', (∀ q, q ≠ 101 → q ≠ 107 → σ'' q = σ' q) ∧ (∀ i, i ≠ 9 → σ'' 101 i = σ' 101 i) ∧ M_X10_settlementOf a1 a2 a3 σ' = some (rs (σ' 101 7), σ'')) :
    ∃ σ'', (∀ q, q ≠ 101 → q ≠ 107 → q ≠ 108 → q ≠ 109 → σ'' q = σ q) ∧ (∀ j, j ≠ 7 → j ≠ 9 → σ'' 101 j = σ 101 j) ∧ (∀ k, k < nd → σ'' 108 k = nI (d k)) ∧ (∀ w, w < 2 ^ nd → σ'' 109 w = ob (rs (mk d nd (nI w)))) ∧ M_X10_findOutcomes a1 a2 a3 σ = some (nI nd, σ'') := by
  have h8 := hd.2.1
  have hp := p2b nd h8
  obtain ⟨σa, f1, f2, q1⟩ := l_rl a1 a2 a3 h2 hb hd nf 0 gFu σ (by omega) (fu _ (by omega)) (fun _ _ => rfl) (fun k hk => absurd hk (Nat.not_lt_zero k))
  obtain ⟨σb, p1, p2, p3, q2⟩ := l_ro (σ := σa) (d := d) (rs := rs) a1 a2 a3 h8 f2 hrs (fun σ' e => hS σ' (e.trans (f1 102 (by decide)))) (2 ^ nd) 0 gFu σa (by omega) (fu _ (by omega)) (fun _ _ _ _ => rfl) (fun _ _ _ => rfl) (fun w hw => absurd hw (Nat.not_lt_zero w))
  refine ⟨gUp σb 101 7 0, fun q a b c e => by rw [gUp_n a, p1 q a b e]; exact f1 q c, fun j a b => by rw [gUp_s, upd_n a, p2 j a b, f1 101 (by decide)], fun k hk => by rw [gUp_n (by decide), p1 108 (by decide) (by decide) (by decide)]; exact f2 k hk, fun w hw => by rw [gUp_n (by decide)]; exact p3 w hw, ?_⟩
  unfold M_X10_findOutcomes
  rw [show dc (σ 102) 0 = 0 from rfl, nI_0] at q1
  rw [nI_0] at q2
  rw [q1, q2, gNm_e]
