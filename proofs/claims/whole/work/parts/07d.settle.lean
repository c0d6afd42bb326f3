theorem l_teller {σ : gSt} {o G : Nat → Int32} {mask : Int32} {gl : Nat} (hg : gl ≤ 10) (hoG : ∀ t, t < gl → (o t = -1 ↔ G t = -2)) (ho : ∀ t, t < gl → M_X7_latestGain (nI t) mask σ = some (G t, σ)) : ∀ (k n : Nat), k < gl → k < n → L2_X7_teller mask n (nI k) σ (fun _ s => some (0, s)) = some (nI (tl o k), σ) := by
  intro k
  induction k with
  | zero =>
    intro n _ hn
    obtain ⟨n, rfl⟩ : ∃ q, n = q + 1 := ⟨n - 1, by omega⟩
    rw [L2_X7_teller, if_pos (show nI 0 ≤ 0 by decide), tl]
    rfl
  | succ k ih =>
    intro n hk hn
    obtain ⟨n, rfl⟩ : ∃ q, n = q + 1 := ⟨n - 1, by omega⟩
    rw [L2_X7_teller, if_neg (nI_nle (by omega) (by omega)), ho (k + 1) hk, gBd_s, tl]
    by_cases c : o (k + 1) = -1
    · rw [if_pos c, if_pos ((hoG (k + 1) hk).mp c), gNm_e, pk_m1]
      exact ih n (by omega) (by omega)
    · rw [if_neg c, if_neg (fun y => c ((hoG (k + 1) hk).mpr y))]
theorem e7_teller {σ : gSt} {o G : Nat → Int32} {mask : Int32} {gl : Nat} (g0 : 0 < gl) (hg : gl ≤ 10) (e7 : σ 85 6 = nI gl) (hoG : ∀ t, t < gl → (o t = -1 ↔ G t = -2)) (ho : ∀ t, t < gl → M_X7_latestGain (nI t) mask σ = some (G t, σ)) : M_X7_teller mask σ = some (nI (tl o (gl - 1)), σ) := by
  unfold M_X7_teller
  obtain ⟨g, rfl⟩ : ∃ g, gl = g + 1 := ⟨gl - 1, by omega⟩
  rw [gNm_e, e7, nI_p1]
  exact l_teller hg hoG ho g gFu (by omega) (fu _ (by omega))
/-- the reference's chain -/
theorem l_set1 {σ : gSt} {K : Int32 → gSt → gO} {nl nq p len gl : Nat} {c : Nat → Nat} {a1 day known : Int32} (h3 : σ 102 3 = nI nl) (hb3 : nl ≤ 12) (hq : nq ≤ 10) (hc : Chn (σ 102) nq p len c) (hlen : len ≤ nq) (g1 : gl ≤ len) (g2 : ∀ t, t + 1 < gl → gob (σ 102) nl day (c t)) (g3 : ¬ gob (σ 102) nl day (c (gl - 1))) :
    ∀ (d t n : Nat) (σ' : gSt), t + d = gl → 0 < t → d < n → (∀ k, k ≠ 107 → σ' k = σ k) → (∀ s, s < t → σ' 107 s = nI (c s)) → ∃ σ'', (∀ k, k ≠ 107 → σ'' k = σ k) ∧ (∀ s, s < gl → σ'' 107 s = nI (c s)) ∧ L3_X10_settlementOf a1 day known n (nI t) σ' K = K (nI gl) σ'' := by
  intro d
  induction d with
  | zero =>
    intro t n σ' ht t0 hn hf h7
    obtain ⟨n, rfl⟩ : ∃ q, n = q + 1 := ⟨n - 1, by omega⟩
    obtain ⟨t, rfl⟩ : ∃ u, t = u + 1 := ⟨t - 1, by omega⟩
    have hct := hc.2.2.1 t (by omega)
    have s102 : σ' 102 = σ 102 := hf 102 (by decide)
    refine ⟨σ', hf, fun s hs => h7 s (by omega), ?_⟩
    rw [L3_X10_settlementOf, nI_p1, gIx_n (by omega) (by omega), nI_tn (by omega), h7 t (by omega)]
    rcases e10_goesBy (σ := σ') (p := c t) day (by rw [s102]; exact h3) hb3 (by omega) with ⟨q, _⟩ | ⟨_, q⟩
    · rw [s102, show t = gl - 1 by omega] at q
      exact absurd q g3
    · rw [q, gBd_s, if_pos (show (0 : Int32) = 0 from rfl), show t + 1 = gl by omega]
  | succ d ih =>
    intro t n σ' ht t0 hn hf h7
    obtain ⟨n, rfl⟩ : ∃ q, n = q + 1 := ⟨n - 1, by omega⟩
    obtain ⟨t, rfl⟩ : ∃ u, t = u + 1 := ⟨t - 1, by omega⟩
    have hct := hc.2.2.1 t (by omega)
    have s102 : σ' 102 = σ 102 := hf 102 (by decide)
    rw [L3_X10_settlementOf, nI_p1, gIx_n (by omega) (by omega), nI_tn (by omega), h7 t (by omega)]
    rcases e10_goesBy (σ := σ') (p := c t) day (by rw [s102]; exact h3) hb3 (by omega) with ⟨_, q⟩ | ⟨q, _⟩
    · rw [q, gBd_s, if_neg (show ¬ (1 : Int32) = 0 by decide), gIx_n (by omega) (by omega), h7 t (by omega), li_79, gIx_n (by omega) (by omega), gIx_n (by omega) (by omega), gNm_e, gNm_e, nI_tn (by omega), nI_tn (by omega), nI_1, s102, hc.2.2.2.1 t (by omega)]
      refine ih (t + 1 + 1) n _ (by omega) (by omega) (by omega) (fun k hk => by rw [gUp_n hk]; exact hf k hk) (fun s hs => ?_)
      rw [gUp_s]
      by_cases e : s = t + 1
      · subst e
        rw [upd_s]
      · rw [upd_n e]
        exact h7 s (by omega)
    · rw [s102] at q
      exact absurd (g2 t (by omega)) q
/-- the reference's way back -/
theorem l_set2 {σ : gSt} {nl nf nq gl : Nat} {c : Nat → Nat} {o : Nat → Int32} {z day known : Int32} (hg : gl ≤ 10) (hq : nq ≤ 10) (hcq : ∀ t, t < gl → c t < nq) (h3 : σ 102 3 = nI nl) (hb3 : nl ≤ 12) (h2 : σ 102 2 = nI nf) (hb : nf ≤ 24) (ho : ∀ t, t < gl → o t = own (σ 102) nl nf day known (σ 101 7) (c t)) (hr : ∀ t, t < gl → o t = -1 ∨ ∃ k, k ≤ 5 ∧ o t = nI k) (h7 : ∀ s, s < gl → σ 107 s = nI (c s)) :
    ∀ (k n : Nat) (σ' : gSt), k < gl → k + 1 < n → (∀ q, q ≠ 101 → σ' q = σ q) → (∀ i, i ≠ 9 → σ' 101 i = σ 101 i) → ∃ σ'', (∀ q, q ≠ 101 → σ'' q = σ q) ∧ (∀ i, i ≠ 9 → σ'' 101 i = σ 101 i) ∧ σ'' 101 9 = nI (c (tl o k)) ∧ L17_X10_settlementOf z (nI (c 0)) day known n (nI k) (-1) σ' (fun _ z30 σ31 => some (z30, σ31)) = some (o (tl o k), σ'') := by
  intro k
  induction k with
  | zero =>
    intro n σ' hk hn f1 f2
    obtain ⟨n, rfl⟩ : ∃ q, n = q + 1 + 1 := ⟨n - 2, by omega⟩
    have c0 := hcq 0 hk
    have s102 : σ' 102 = σ 102 := f1 102 (by decide)
    have ow := e10_ownOf (σ := σ') (nl := nl) (nf := nf) (p := c 0) day known (by rw [s102]; exact h3) hb3 (by rw [s102]; exact h2) hb (by omega)
    rw [s102, f2 7 (by decide), ← ho 0 hk] at ow
    rw [L17_X10_settlementOf, if_neg (nI_pos (by omega)), if_neg (show ¬ (0 : Int32) ≤ -1 by decide), gIx_n (by omega) (by omega), nI_tn (by omega), f1 107 (by decide), h7 0 hk, ow, gBd_s, tl]
    have fin : ∀ (r : Int32) (s : gSt), L17_X10_settlementOf z (nI (c 0)) day known (n + 1) (nI 0 + (-1)) r s (fun _ z30 σ31 => some (z30, σ31)) = some (r, s) := by
      intro r s
      rw [L17_X10_settlementOf, if_pos (show nI 0 + (-1) < 0 by decide)]
    refine ⟨gUp σ' 101 9 (nI (c 0)), fun q hq => by rw [gUp_n hq]; exact f1 q hq, fun i hi => by rw [gUp_s, upd_n hi]; exact f2 i hi, by rw [gUp_s, upd_s], ?_⟩
    by_cases y : 0 ≤ o 0
    · rw [if_pos y, gIx_n (by omega) (by omega), gNm_e, gNm_e, f1 107 (by decide), h7 0 hk, fin]
    · rw [if_neg y, gNm_e, gNm_e, fin]
  | succ k ih =>
    intro n σ' hk hn f1 f2
    obtain ⟨n, rfl⟩ : ∃ q, n = q + 1 + 1 := ⟨n - 2, by omega⟩
    have c0 := hcq (k + 1) hk
    have s102 : σ' 102 = σ 102 := f1 102 (by decide)
    have ow := e10_ownOf (σ := σ') (nl := nl) (nf := nf) (p := c (k + 1)) day known (by rw [s102]; exact h3) hb3 (by rw [s102]; exact h2) hb (by omega)
    rw [s102, f2 7 (by decide), ← ho (k + 1) hk] at ow
    rw [L17_X10_settlementOf, if_neg (nI_pos (by omega)), if_neg (show ¬ (0 : Int32) ≤ -1 by decide), gIx_n (by omega) (by omega), nI_tn (by omega), f1 107 (by decide), h7 (k + 1) hk, ow, gBd_s, tl]
    rcases hr (k + 1) hk with e | ⟨j, hj, e⟩
    · rw [if_pos e, e, if_neg (show ¬ (0 : Int32) ≤ -1 by decide), gNm_e, gNm_e, pk_m1]
      exact ih (n + 1) (gUp σ' 101 9 (nI (c 0))) (by omega) (by omega) (fun q hq => by rw [gUp_n hq]; exact f1 q hq) (fun i hi => by rw [gUp_s, upd_n hi]; exact f2 i hi)
    · have y : 0 ≤ o (k + 1) := by rw [e]; exact nI_pos' (by omega)
      have ne : ¬ o (k + 1) = -1 := fun q => by rw [q] at y; exact absurd y (by decide)
      rw [if_neg ne, if_pos y, gIx_n (by omega) (by omega), gNm_e, gNm_e, f1 107 (by decide), h7 (k + 1) hk, pk_m1, L17_X10_settlementOf, if_neg (nI_pos (by omega)), if_pos y]
      exact ⟨gUp σ' 101 9 (nI (c (k + 1))), fun q hq => by rw [gUp_n hq]; exact f1 q hq, fun i hi => by rw [gUp_s, upd_n hi]; exact f2 i hi, by rw [gUp_s, upd_s], rfl⟩
theorem e10_settlementOf {σ : gSt} {nl nf nq p len gl : Nat} {c : Nat → Nat} {day known : Int32} (hq : nq ≤ 10) (h3 : σ 102 3 = nI nl) (hb3 : nl ≤ 12) (h2 : σ 102 2 = nI nf) (hb : nf ≤ 24) (hF : RgF (σ 102)) (hP : RgP (σ 102)) (hc : Chn (σ 102) nq p len c) (hlen : len ≤ nq) (g0 : 0 < gl) (g1 : gl ≤ len) (g2 : ∀ t, t + 1 < gl → gob (σ 102) nl day (c t)) (g3 : ¬ gob (σ 102) nl day (c (gl - 1))) :
    ∃ σ'', (∀ q, q ≠ 101 → q ≠ 107 → σ'' q = σ q) ∧ (∀ i, i ≠ 9 → σ'' 101 i = σ 101 i) ∧ σ'' 101 9 = nI (c (tl (fun t => own (σ 102) nl nf day known (σ 101 7) (c t)) (gl - 1))) ∧ M_X10_settlementOf (nI p) day known σ = some (own (σ 102) nl nf day known (σ 101 7) (c (tl (fun t => own (σ 102) nl nf day known (σ 101 7) (c t)) (gl - 1))), σ'') := by
  have i0 : ∀ X : gO, gIx 10 (0 : Int32) X = X := fun X => if_neg (by decide)
  unfold M_X10_settlementOf
  rw [i0, gNm_e, tn0]
  obtain ⟨σa, hσa⟩ : ∃ s, s = gUp σ 107 0 (nI p) := ⟨_, rfl⟩
  have fa : ∀ k, k ≠ 107 → σa k = σ k := fun k hk => by rw [hσa, gUp_n hk]
  have a102 : σa 102 = σ 102 := fa 102 (by decide)
  obtain ⟨σb, fb, b7, q⟩ := l_set1 (σ := σa) (K := fun z13 σ14 => gNm (gUp σ14 101 9 (nI p)) (fun σ15 => gNm ((z13 - 1) : Int32) (fun x16 => L17_X10_settlementOf z13 (nI p) day known gFu x16 (-1) σ15 (fun _ z30 σ31 => some (z30, σ31))))) (a1 := nI p) (known := known) (by rw [a102]; exact h3) hb3 hq (by rw [a102]; exact hc) hlen g1 (by rw [a102]; exact g2) (by rw [a102]; exact g3) (gl - 1) 1 gFu σa (by omega) (by omega) (fu _ (by omega)) (fun _ _ => rfl) (fun s hs => by
    have : s = 0 := by omega
    subst this
    rw [hσa, gUp_s, upd_s, hc.1])
  obtain ⟨g, rfl⟩ : ∃ g, gl = g + 1 := ⟨gl - 1, by omega⟩
  rw [← hσa]
  have q' := q
  rw [show nI 1 = 1 from rfl] at q'
  rw [q', gNm_e, gNm_e, nI_p1]
  have b102 : σb 102 = σ 102 := (fb 102 (by decide)).trans a102
  have bb : ∀ k, k ≠ 107 → σb k = σ k := fun k hk => (fb k hk).trans (fa k hk)
  have b1017 : σb 101 7 = σ 101 7 := by rw [bb 101 (by decide)]
  obtain ⟨σc, fc1, fc2, fc3, r⟩ := l_set2 (σ := σb) (nl := nl) (nf := nf) (nq := nq) (gl := g + 1) (c := c) (o := fun t => own (σ 102) nl nf day known (σ 101 7) (c t)) (z := nI (g + 1)) (day := day) (known := known) (by omega) hq (fun t ht => hc.2.2.1 t (by omega)) (by rw [b102]; exact h3) hb3 (by rw [b102]; exact h2) hb (fun t ht => by rw [b102, b1017]) (fun t ht => own_rng nl nf day known (σ 101 7) (by have := hc.2.2.1 t (by omega); omega) hb hF hP) b7 g gFu (gUp σb 101 9 (nI p)) (by omega) (fu _ (by omega)) (fun k hk => by rw [gUp_n hk]) (fun i hi => by rw [gUp_s, upd_n hi])
  rw [hc.1] at r
  refine ⟨σc, fun k h1 h2 => (fc1 k h1).trans (bb k h2), fun i hi => by rw [fc2 i hi, bb 101 (by decide)], ?_, ?_⟩
  · rw [fc3]
    rfl
  · rw [r]
    rfl
/-- how a person's own gains hang on what is denied -/
def Gn (nf gl : Nat) (o G : Int32 → Nat → Int32) : Prop := (∀ m t, t < gl → (o m t = -1 ↔ G m t = -2)) ∧ (∀ m t, t < gl → G m t = -2 ∨ G m t = -1 ∨ ∃ f, f < nf ∧ G m t = nI f ∧ bt m f = 0) ∧ (∀ m m' t, t < gl → (∀ f, f < 24 → bt m' f = 0 → bt m f = 0) → (∀ f, f < 24 → G m t = nI f → bt m' f = 0) → G m' t = G m t ∧ o m' t = o m t)
/-- all of a reckoning -/
theorem Inv.reck {σ : gSt} (h : Inv σ) (day known : Int32) {p nq : Nat} (hq : σ 102 1 = nI nq) (hqb : nq ≤ 10) (hp : p < nq) : ∃ (gl : Nat) (c : Nat → Nat) (o G : Int32 → Nat → Int32), 0 < gl ∧ gl ≤ 10 ∧ c 0 = p ∧ (∀ t, t < gl → c t < nq) ∧ (∀ m t, t < gl → o m t = -1 ∨ ∃ k, k ≤ 5 ∧ o m t = nI k) ∧ (∀ nf, σ 102 2 = nI nf → nf ≤ 24 → Gn nf gl o G) ∧ (∀ m t, t < gl → (o m t = -1 ↔ G m t = -2)) ∧
    (∃ σ1, M_X7_prepare (nI p) day known σ = some (0, σ1) ∧ (∀ k, k < 85 ∨ 88 < k → σ1 k = σ k) ∧ σ1 85 6 = nI gl ∧ (∀ t, t < gl → σ1 87 t = nI (c t)) ∧ (∀ (m : Int32) (t : Nat), t < gl → ∀ σ', (∀ k, k ≠ 85 → k ≠ 89 → k ≠ 90 → k ≠ 91 → σ' k = σ1 k) → M_X7_latestGain (nI t) m σ' = some (G m t, σ') ∧ M_X7_parishBy (nI t) (G m t) σ' = some (o m t, σ'))) ∧
    (∀ σ', σ' 102 = σ 102 → M_X10_ownOf (nI p) day known σ' = some (o (σ' 101 7) 0, σ') ∧ ∃ σ'', (∀ q, q ≠ 101 → q ≠ 107 → σ'' q = σ' q) ∧ (∀ i, i ≠ 9 → σ'' 101 i = σ' 101 i) ∧ σ'' 101 9 = nI (c (tl (o (σ' 101 7)) (gl - 1))) ∧ M_X10_settlementOf (nI p) day known σ' = some (o (σ' 101 7) (tl (o (σ' 101 7)) (gl - 1)), σ'')) := by
  obtain ⟨np, nq', nf, nl, no, hR, hC, hX, ⟨k0, k1, k2, k3, k4⟩, ⟨m0, m1, m2, m3, m4⟩, ⟨b0, b1, b2, b3, b4⟩⟩ := h.nums
  have : nq' = nq := (nI_eq (by omega) (by omega)).mp (m1.symm.trans hq)
  subst this
  have hR' := hR
  obtain ⟨rA, rT, rW, rP, rS, rZ, rL, rF, rD, rO⟩ := hR
  obtain ⟨len, c, hc, hlen⟩ := rL.chain hp
  obtain ⟨gl, g0, g1, g2, g3⟩ := gchain (nl := nl) day hc
  have hoG : ∀ (m : Int32) (t : Nat), t < gl → (own (σ 102) nl nf day known m (c t) = -1 ↔ lg (σ 102) nl nf day known m (c t) = -2) := fun m t ht => own_none nl nf day known m (by have := hc.2.2.1 t (by omega); omega) b2 rF rP
  refine ⟨gl, c, fun m t => own (σ 102) nl nf day known m (c t), fun m t => lg (σ 102) nl nf day known m (c t), g0, by omega, hc.1, fun t ht => hc.2.2.1 t (by omega), fun m t ht => own_rng nl nf day known m (by have := hc.2.2.1 t (by omega); omega) b2 rF rP, ?_, hoG, e7_prepare h hR' hc hlen g0 g1 g2 g3, ?_⟩
  · intro nf' e' b'
    have : nf' = nf := (nI_eq (by omega) (by omega)).mp (e'.symm.trans m2)
    subst this
    refine ⟨hoG, fun m t _ => lg_rng nl nf' day known m (c t), fun m m' t _ hle hu => ?_⟩
    have e : lg (σ 102) nl nf' day known m' (c t) = lg (σ 102) nl nf' day known m (c t) := congrArg Prod.snd (lg_iia hle (gin (σ 102) nl day (c t)) nf' b2 hu)
    refine ⟨e, ?_⟩
    show own (σ 102) nl nf' day known m' (c t) = own (σ 102) nl nf' day known m (c t)
    rw [own_lg nl nf' day known m' (c t) b2, own_lg nl nf' day known m (c t) b2, e]
  intro σ' e
  refine ⟨?_, ?_⟩
  · have := e10_ownOf (σ := σ') (nl := nl) (nf := nf) (p := p) day known (by rw [e]; exact m3) b3 (by rw [e]; exact m2) b2 (by omega)
    rw [e] at this
    show _ = some (own (σ 102) nl nf day known (σ' 101 7) (c 0), σ')
    rw [this, hc.1]
  · have := e10_settlementOf (σ := σ') (nl := nl) (nf := nf) (nq := nq') (p := p) (len := len) (gl := gl) (c := c) (day := day) (known := known) hqb (by rw [e]; exact m3) b3 (by rw [e]; exact m2) b2 (by rw [e]; exact rF) (by rw [e]; exact rP) (by rw [e]; exact hc) hlen g0 g1 (by rw [e]; exact g2) (by rw [e]; exact g3)
    rw [e] at this
    exact this
