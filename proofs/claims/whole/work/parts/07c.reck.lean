/-- the chain of those who go one by the other -/
theorem gchain {N : Nat → Int32} {nl nq p len : Nat} {c : Nat → Nat} (day : Int32) (h : Chn N nq p len c) : ∃ gl, 0 < gl ∧ gl ≤ len ∧ (∀ t, t + 1 < gl → gob N nl day (c t)) ∧ ¬ gob N nl day (c (gl - 1)) := by
  have hex : ∃ t, t < len ∧ ¬ gob N nl day (c t) := ⟨len - 1, by have := h.2.1; omega, fun y => by
    have := y.1
    rw [h.2.2.2.2] at this
    exact absurd this (by decide)⟩
  classical
  obtain ⟨t0, h0, h1, h2⟩ := fb_first (p := fun t => ¬ gob N nl day (c t)) hex
  refine ⟨t0 + 1, by omega, by omega, fun t ht => Classical.not_not.mp (h2 t (by omega)), h1⟩
/-- who tells: the farthest with a settlement, else the first -/
noncomputable def tl (o : Nat → Int32) : Nat → Nat
  | 0 => 0
  | k + 1 => if o (k + 1) = -1 then tl o k else k + 1
theorem tl_le (o : Nat → Int32) : ∀ k, tl o k ≤ k
  | 0 => Nat.le_refl 0
  | k + 1 => by
    rw [tl]
    have := tl_le o k
    by_cases c : o (k + 1) = -1
    · rw [if_pos c]; omega
    · rw [if_neg c]; omega
/-- who tells goes on to tell while what he tells by isn't denied -/
theorem tl_iia {o o' G G' : Nat → Int32} {U : Int32 → Prop} : ∀ k, (∀ t, t ≤ k → (o t = -1 ↔ G t = -2) ∧ (o' t = -1 ↔ G' t = -2) ∧ (U (G t) → G' t = G t)) → U (-2) → U (G (tl o k)) → tl o' k = tl o k
  | 0, _, _, _ => rfl
  | k + 1, h, u2, hu => by
    obtain ⟨h1, h2, h3⟩ := h (k + 1) (Nat.le_refl _)
    rw [tl] at hu
    rw [tl, tl]
    by_cases c : o (k + 1) = -1
    · have e := h3 (by rw [h1.mp c]; exact u2)
      rw [if_pos c] at hu
      rw [if_pos c, if_pos (h2.mpr (e.trans (h1.mp c)))]
      exact tl_iia k (fun t ht => h t (by omega)) u2 hu
    · rw [if_neg c] at hu
      have e := h3 hu
      rw [if_neg c, if_neg (fun y => c (h1.mpr (e.symm.trans (h2.mp y))))]
/-- nothing but the reckoning's own rows has changed -/
def Scr (σ σ' : gSt) : Prop := (∀ k, k < 85 ∨ (92 ≤ k ∧ k ≤ 100) ∨ (102 ≤ k ∧ k ≤ 106) → σ' k = σ k) ∧ σ' 101 2 = σ 101 2 ∧ σ' 101 3 = σ 101 3
theorem Scr.rf {σ : gSt} : Scr σ σ := ⟨fun _ _ => rfl, rfl, rfl⟩
theorem Scr.trans {σ σ' σ'' : gSt} (h : Scr σ σ') (h2 : Scr σ' σ'') : Scr σ σ'' := ⟨fun k hk => (h2.1 k hk).trans (h.1 k hk), h2.2.1.trans h.2.1, h2.2.2.trans h.2.2⟩
theorem Inv.scr {σ σ' : gSt} (h : Inv σ) (hs : Scr σ σ') : Inv σ' := by
  obtain ⟨h1, h2, h3, h4, h5⟩ := h
  obtain ⟨s1, s2, s3⟩ := hs
  refine ⟨?_, ?_, ?_, ?_, ?_⟩
  · rw [s1 102 (by omega)]
    exact h1.same (fun k a b => s1 k (by omega))
  · rw [s2, s1 103 (by omega)]
    exact fun e => (h2 e).same (fun k a b => s1 _ (by omega))
  · rw [s2, s1 0 (by omega)]
    exact h3
  · rw [s3, s1 0 (by omega)]
    exact h4
  · intro j hj
    rw [s1 104 (by omega), s1 105 (by omega), s1 106 (by omega), s1 (93 + j) (by omega), s1 (97 + j) (by omega)]
    exact h5 j hj
/-- the facts' days, laid by prepare -/
noncomputable def gnv (N : Nat → Int32) (nl : Nat) (day known : Int32) (f : Nat) : Int32 := @ite _ (gok N nl day known f) (Classical.propDecidable _) (gfd N f) (-1)
theorem l_prep1 {σ : gSt} {K : Int32 → gSt → gO} {nl nf : Nat} {a1 day known : Int32} (hC : Col σ (σ 102)) (hX : Exc σ (σ 102)) (h3 : σ 26 0 = nI nl) (hb3 : nl ≤ 12) (h2 : σ 17 0 = nI nf) (hb : nf ≤ 24) (hF : RgF (σ 102)) : ∀ (d i n : Nat), i + d = nf → d < n → L1_X7_prepare a1 day known n (nI i) (gRow σ 86 (fa_fill (gnv (σ 102) nl day known) (σ 86) i)) K = K (nI nf) (gRow σ 86 (fa_fill (gnv (σ 102) nl day known) (σ 86) nf)) := by
  intro d
  induction d with
  | zero =>
    intro i n hi hn
    obtain ⟨n, rfl⟩ : ∃ k, n = k + 1 := ⟨n - 1, by omega⟩
    have e : i = nf := by omega
    subst e
    rw [L1_X7_prepare, gRow_n (show 17 ≠ 86 by decide), h2, if_pos (nI_le (Nat.le_refl _) (by omega))]
  | succ d ih =>
    intro i n hi hn
    obtain ⟨n, rfl⟩ : ∃ k, n = k + 1 := ⟨n - 1, by omega⟩
    have fs : ∀ v, v = gnv (σ 102) nl day known i → gUp (gRow σ 86 (fa_fill (gnv (σ 102) nl day known) (σ 86) i)) 86 i v = gRow σ 86 (fa_fill (gnv (σ 102) nl day known) (σ 86) (i + 1)) := by
      intro v hv
      rw [gUp_row, hv, fa_fill_succ]
    have g24 := hC.get0 24 273 24 (by decide) (show i < 24 by omega)
    obtain ⟨σ', hσ⟩ : ∃ s, s = gRow σ 86 (fa_fill (gnv (σ 102) nl day known) (σ 86) i) := ⟨_, rfl⟩
    have s102 : σ' 102 = σ 102 := by rw [hσ, gRow_n (by decide)]
    have sc : ∀ k, 1 ≤ k → k ≤ 42 → σ' k = σ k := fun k a b => by rw [hσ, gRow_n (by omega)]
    have hC' : Col σ' (σ' 102) := by rw [s102]; exact hC.same sc
    have hX' : Exc σ' (σ' 102) := by rw [s102]; exact hX.same (sc 16 (by decide) (by decide)) (sc 21 (by decide) (by decide)) (sc 28 (by decide) (by decide)) (fun _ _ => rfl)
    rw [L1_X7_prepare, gRow_n (show 17 ≠ 86 by decide), h2, if_neg (nle (by omega) (by omega)), gIx_n (by omega) (by omega), nI_tn (by omega), gRow_n (show 24 ≠ 86 by decide), g24]
    by_cases c : known < σ 102 (273 + i)
    · rw [if_pos c, gIx_n (by omega) (by omega), gNm_e, gNm_e, nI_1, fs (-1) (if_neg (fun y => y.1 c)).symm]
      exact ih (i + 1) n (by omega) (by omega)
    · rw [if_neg c, ← hσ]
      rcases e7_gainByFact (σ := σ') (f := i) day hC' hX' (by rw [sc 26 (by decide) (by decide)]; exact h3) hb3 (by omega) (by rw [s102]; exact hF) with ⟨q1, q2, q⟩ | ⟨q1, q⟩
      · rw [s102] at q1 q2 q
        rw [q, gBd_s, gIx_n (by omega) (by omega), gNm_e, gNm_e, nI_1, hσ, fs _ (if_pos ⟨c, q1, q2⟩).symm]
        exact ih (i + 1) n (by omega) (by omega)
      · rw [s102] at q1
        rw [q, gBd_s, gIx_n (by omega) (by omega), gNm_e, gNm_e, nI_1, hσ, fs (-1) (if_neg (fun y => q1 y.2)).symm]
        exact ih (i + 1) n (by omega) (by omega)
/-- the line, as far as it is laid -/
def Pi (σ0 : gSt) (N : Nat → Int32) (nl : Nat) (day : Int32) (c : Nat → Nat) (t : Nat) (σ' : gSt) : Prop := (∀ k, k ≠ 85 → k ≠ 87 → k ≠ 88 → σ' k = σ0 k) ∧ σ' 85 6 = nI t ∧ (∀ s, s < t → σ' 87 s = nI (c s)) ∧ (∀ s, s < t → (bok N nl day (c s) ∧ σ' 88 s = N (69 + c s)) ∨ (¬ bok N nl day (c s) ∧ σ' 88 s = -1))
theorem l_prep2 {σ : gSt} {nl nq p len gl : Nat} {c : Nat → Nat} {a1 day known : Int32} (hC : Col σ (σ 102)) (hX : Exc σ (σ 102)) (h3 : σ 26 0 = nI nl) (hb3 : nl ≤ 12) (k1 : σ 11 0 = nI nq) (hq : nq ≤ 10) (hL : RgL (σ 102) nq) (hc : Chn (σ 102) nq p len c) (hlen : len ≤ nq) (g1 : gl ≤ len) (g2 : ∀ t, t + 1 < gl → gob (σ 102) nl day (c t)) (g3 : ¬ gob (σ 102) nl day (c (gl - 1))) :
    ∀ (d t n : Nat) (σ' : gSt), t + d + 1 = gl → d + 1 < n → Pi σ (σ 102) nl day c t σ' → ∃ σ'', Pi σ (σ 102) nl day c gl σ'' ∧ L16_X7_prepare a1 day known n (nI (c t)) σ' (fun _ s => some (0, s)) = some (0, σ'') := by
  intro d
  induction d with
  | zero =>
    intro t n σ' ht hn hP
    obtain ⟨n, rfl⟩ : ∃ k, n = k + 1 + 1 := ⟨n - 2, by omega⟩
    have hct := hc.2.2.1 t (by omega)
    have v := ix_ok hct (show nq < 2 ^ 30 by omega)
    obtain ⟨f, e7, e87, e88⟩ := hP
    have s11 : σ' 11 0 = nI nq := by rw [f 11 (by decide) (by decide) (by decide)]; exact k1
    rw [L16_X7_prepare, e7, if_neg (show ¬ (10 : Int32) ≤ nI t from nle (b := 10) (by omega) (by omega)), e5_has, gBd_s, s11, if_pos (show 0 ≤ nI (c t) ∧ nI (c t) < nI nq from ⟨v.1, v.2.1⟩), if_neg (show ¬ (1 : Int32) = 0 by decide), e7, gIx_n (by omega) (by omega), gNm_e, nI_tn (by omega)]
    obtain ⟨σ2, hσ2⟩ : ∃ s, s = gUp σ' 87 t (nI (c t)) := ⟨_, rfl⟩
    have f2 : ∀ k, k ≠ 85 → k ≠ 87 → k ≠ 88 → σ2 k = σ k := fun k a b c => by rw [hσ2, gUp_n b]; exact f k a b c
    have s102 : σ2 102 = σ 102 := f2 102 (by decide) (by decide) (by decide)
    have hC2 : Col σ2 (σ2 102) := by rw [s102]; exact hC.same (fun k a b => f2 k (by omega) (by omega) (by omega))
    have hX2 : Exc σ2 (σ2 102) := by rw [s102]; exact hX.same (f2 16 (by decide) (by decide) (by decide)) (f2 21 (by decide) (by decide) (by decide)) (f2 28 (by decide) (by decide) (by decide)) (fun _ _ => rfl)
    have b := e7_gainByBirth (σ := σ2) (p := c t) day hC2 hX2 (by rw [f2 26 (by decide) (by decide) (by decide)]; exact h3) hb3 (by omega)
    rw [s102] at b
    obtain ⟨r, hr, eb⟩ : ∃ r, M_X7_gainByBirth (nI (c t)) day σ2 = some (r, σ2) ∧ ((bok (σ 102) nl day (c t) ∧ r = σ 102 (69 + c t)) ∨ (¬ bok (σ 102) nl day (c t) ∧ r = -1)) := by
      rcases b with ⟨q1, q2⟩ | ⟨q1, q2⟩
      · exact ⟨_, q2, Or.inl ⟨q1, rfl⟩⟩
      · exact ⟨_, q2, Or.inr ⟨q1, rfl⟩⟩
    have e72 : σ2 85 6 = nI t := by rw [hσ2, gUp_n (by decide)]; exact e7
    rw [← hσ2, hr, gBd_s, e72, gIx_n (by omega) (by omega), gNm_e, gNm_e, nI_tn (by omega)]
    obtain ⟨σ3, hσ3⟩ : ∃ s, s = gUp (gUp σ2 88 t r) 85 6 (gUp σ2 88 t r 85 6 + 1) := ⟨_, rfl⟩
    have e73 : gUp σ2 88 t r 85 6 + 1 = nI (t + 1) := by rw [gUp_n (by decide), e72, nI_1]
    have f3 : ∀ k, k ≠ 85 → k ≠ 87 → k ≠ 88 → σ3 k = σ k := fun k a b c => by rw [hσ3, gUp_n a, gUp_n c]; exact f2 k a b c
    have t102 : σ3 102 = σ 102 := f3 102 (by decide) (by decide) (by decide)
    have hC3 : Col σ3 (σ3 102) := by rw [t102]; exact hC.same (fun k a b => f3 k (by omega) (by omega) (by omega))
    have hX3 : Exc σ3 (σ3 102) := by rw [t102]; exact hX.same (f3 16 (by decide) (by decide) (by decide)) (f3 21 (by decide) (by decide) (by decide)) (f3 28 (by decide) (by decide) (by decide)) (fun _ _ => rfl)
    have P3 : Pi σ (σ 102) nl day c (t + 1) σ3 := by
      refine ⟨f3, ?_, fun s hs => ?_, fun s hs => ?_⟩
      · rw [hσ3, e73, gUp_s, upd_s]
      · rw [hσ3, gUp_n (by decide), gUp_n (by decide), hσ2, gUp_s]
        by_cases e : s = t
        · subst e
          rw [upd_s]
        · rw [upd_n e]
          exact e87 s (by omega)
      · rw [hσ3, gUp_n (by decide), gUp_s]
        by_cases e : s = t
        · subst e
          rw [upd_s]
          exact eb
        · rw [upd_n e, hσ2, gUp_n (by decide)]
          exact e88 s (by omega)
    rw [← hσ3]
    have lo := e7_leaderOf (σ := σ3) (nl := nl) (nq := nq) (p := c t) day hC3 hX3 (by rw [f3 26 (by decide) (by decide) (by decide)]; exact h3) hb3 hq hct (by rw [t102]; exact hL)
    rw [t102] at lo
    have ng : ¬ gob (σ 102) nl day (c t) := by rw [show t = gl - 1 by omega]; exact g3
    rcases lo with ⟨q, _⟩ | ⟨_, q⟩
    · exact absurd q ng
    · refine ⟨σ3, by rw [show gl = t + 1 by omega]; exact P3, ?_⟩
      rw [q, gBd_s, L16_X7_prepare]
      by_cases c10 : (10 : Int32) ≤ σ3 85 6
      · rw [if_pos c10]
      · rw [if_neg c10, e5_has, gBd_s, if_neg (show ¬ ((0 : Int32) ≤ -1 ∧ -1 < σ3 11 0) from fun y => absurd y.1 (by decide)), if_pos (show (0 : Int32) = 0 from rfl)]
  | succ d ih =>
    intro t n σ' ht hn hP
    obtain ⟨n, rfl⟩ : ∃ k, n = k + 1 := ⟨n - 1, by omega⟩
    have hct := hc.2.2.1 t (by omega)
    have v := ix_ok hct (show nq < 2 ^ 30 by omega)
    obtain ⟨f, e7, e87, e88⟩ := hP
    have s11 : σ' 11 0 = nI nq := by rw [f 11 (by decide) (by decide) (by decide)]; exact k1
    rw [L16_X7_prepare, e7, if_neg (show ¬ (10 : Int32) ≤ nI t from nle (b := 10) (by omega) (by omega)), e5_has, gBd_s, s11, if_pos (show 0 ≤ nI (c t) ∧ nI (c t) < nI nq from ⟨v.1, v.2.1⟩), if_neg (show ¬ (1 : Int32) = 0 by decide), e7, gIx_n (by omega) (by omega), gNm_e, nI_tn (by omega)]
    obtain ⟨σ2, hσ2⟩ : ∃ s, s = gUp σ' 87 t (nI (c t)) := ⟨_, rfl⟩
    have f2 : ∀ k, k ≠ 85 → k ≠ 87 → k ≠ 88 → σ2 k = σ k := fun k a b c => by rw [hσ2, gUp_n b]; exact f k a b c
    have s102 : σ2 102 = σ 102 := f2 102 (by decide) (by decide) (by decide)
    have hC2 : Col σ2 (σ2 102) := by rw [s102]; exact hC.same (fun k a b => f2 k (by omega) (by omega) (by omega))
    have hX2 : Exc σ2 (σ2 102) := by rw [s102]; exact hX.same (f2 16 (by decide) (by decide) (by decide)) (f2 21 (by decide) (by decide) (by decide)) (f2 28 (by decide) (by decide) (by decide)) (fun _ _ => rfl)
    have b := e7_gainByBirth (σ := σ2) (p := c t) day hC2 hX2 (by rw [f2 26 (by decide) (by decide) (by decide)]; exact h3) hb3 (by omega)
    rw [s102] at b
    obtain ⟨r, hr, eb⟩ : ∃ r, M_X7_gainByBirth (nI (c t)) day σ2 = some (r, σ2) ∧ ((bok (σ 102) nl day (c t) ∧ r = σ 102 (69 + c t)) ∨ (¬ bok (σ 102) nl day (c t) ∧ r = -1)) := by
      rcases b with ⟨q1, q2⟩ | ⟨q1, q2⟩
      · exact ⟨_, q2, Or.inl ⟨q1, rfl⟩⟩
      · exact ⟨_, q2, Or.inr ⟨q1, rfl⟩⟩
    have e72 : σ2 85 6 = nI t := by rw [hσ2, gUp_n (by decide)]; exact e7
    rw [← hσ2, hr, gBd_s, e72, gIx_n (by omega) (by omega), gNm_e, gNm_e, nI_tn (by omega)]
    obtain ⟨σ3, hσ3⟩ : ∃ s, s = gUp (gUp σ2 88 t r) 85 6 (gUp σ2 88 t r 85 6 + 1) := ⟨_, rfl⟩
    have e73 : gUp σ2 88 t r 85 6 + 1 = nI (t + 1) := by rw [gUp_n (by decide), e72, nI_1]
    have f3 : ∀ k, k ≠ 85 → k ≠ 87 → k ≠ 88 → σ3 k = σ k := fun k a b c => by rw [hσ3, gUp_n a, gUp_n c]; exact f2 k a b c
    have t102 : σ3 102 = σ 102 := f3 102 (by decide) (by decide) (by decide)
    have hC3 : Col σ3 (σ3 102) := by rw [t102]; exact hC.same (fun k a b => f3 k (by omega) (by omega) (by omega))
    have hX3 : Exc σ3 (σ3 102) := by rw [t102]; exact hX.same (f3 16 (by decide) (by decide) (by decide)) (f3 21 (by decide) (by decide) (by decide)) (f3 28 (by decide) (by decide) (by decide)) (fun _ _ => rfl)
    have P3 : Pi σ (σ 102) nl day c (t + 1) σ3 := by
      refine ⟨f3, ?_, fun s hs => ?_, fun s hs => ?_⟩
      · rw [hσ3, e73, gUp_s, upd_s]
      · rw [hσ3, gUp_n (by decide), gUp_n (by decide), hσ2, gUp_s]
        by_cases e : s = t
        · subst e
          rw [upd_s]
        · rw [upd_n e]
          exact e87 s (by omega)
      · rw [hσ3, gUp_n (by decide), gUp_s]
        by_cases e : s = t
        · subst e
          rw [upd_s]
          exact eb
        · rw [upd_n e, hσ2, gUp_n (by decide)]
          exact e88 s (by omega)
    rw [← hσ3]
    have lo := e7_leaderOf (σ := σ3) (nl := nl) (nq := nq) (p := c t) day hC3 hX3 (by rw [f3 26 (by decide) (by decide) (by decide)]; exact h3) hb3 hq hct (by rw [t102]; exact hL)
    rw [t102] at lo
    have yg := g2 t (by omega)
    rcases lo with ⟨_, q⟩ | ⟨q, _⟩
    · rw [q, gBd_s, hc.2.2.2.1 t (by omega)]
      exact ih (t + 1) n σ3 (by omega) (by omega) P3
    · exact absurd yg q
/-- prepare -/
theorem e7_prepare {σ : gSt} (h : Inv σ) {np nq nf nl no p len gl : Nat} {c : Nat → Nat} {day known : Int32} (hR : Rg (σ 102) np nq nf nl no) (hc : Chn (σ 102) nq p len c) (hlen : len ≤ nq) (g0 : 0 < gl) (g1 : gl ≤ len) (g2 : ∀ t, t + 1 < gl → gob (σ 102) nl day (c t)) (g3 : ¬ gob (σ 102) nl day (c (gl - 1))) :
    ∃ σ1, M_X7_prepare (nI p) day known σ = some (0, σ1) ∧ (∀ k, k < 85 ∨ 88 < k → σ1 k = σ k) ∧ σ1 85 6 = nI gl ∧ (∀ t, t < gl → σ1 87 t = nI (c t)) ∧ (∀ (mask : Int32) (t : Nat), t < gl → ∀ σ', (∀ k, k ≠ 85 → k ≠ 89 → k ≠ 90 → k ≠ 91 → σ' k = σ1 k) → M_X7_latestGain (nI t) mask σ' = some (lg (σ 102) nl nf day known mask (c t), σ') ∧ M_X7_parishBy (nI t) (lg (σ 102) nl nf day known mask (c t)) σ' = some (own (σ 102) nl nf day known mask (c t), σ')) := by
  obtain ⟨⟨hC, hX, -⟩, -⟩ := h
  obtain ⟨rA, rT, rW, rP, rS, rZ, rL, rF, rD, rO⟩ := hR
  obtain ⟨⟨m0, m1, m2, m3, m4⟩, b0, b1, b2, b3, b4⟩ := rA
  have k1 : σ 11 0 = nI nq := (hC.get0 11 1 1 (by decide) (j := 0) (by decide)).trans m1
  have k2 : σ 17 0 = nI nf := (hC.get0 17 2 1 (by decide) (j := 0) (by decide)).trans m2
  have k3 : σ 26 0 = nI nl := (hC.get0 26 3 1 (by decide) (j := 0) (by decide)).trans m3
  obtain ⟨σa, hσa⟩ : ∃ s, s = gUp (gRow σ 86 (fa_fill (gnv (σ 102) nl day known) (σ 86) nf)) 85 6 0 := ⟨_, rfl⟩
  have fa : ∀ k, k ≠ 85 → k ≠ 86 → σa k = σ k := fun k a b => by rw [hσa, gUp_n a, gRow_n b]
  have a102 : σa 102 = σ 102 := fa 102 (by decide) (by decide)
  have hCa : Col σa (σa 102) := by rw [a102]; exact hC.same (fun k a b => fa k (by omega) (by omega))
  have hXa : Exc σa (σa 102) := by rw [a102]; exact hX.same (fa 16 (by decide) (by decide)) (fa 21 (by decide) (by decide)) (fa 28 (by decide) (by decide)) (fun _ _ => rfl)
  have L2 := l_prep2 (σ := σa) (nl := nl) (nq := nq) (p := p) (len := len) (gl := gl) (c := c) (a1 := nI p) (day := day) (known := known) hCa hXa (by rw [fa 26 (by decide) (by decide)]; exact k3) b3 (by rw [fa 11 (by decide) (by decide)]; exact k1) b1 (by rw [a102]; exact rL) (by rw [a102]; exact hc) hlen g1 (by rw [a102]; exact g2) (by rw [a102]; exact g3) (gl - 1) 0 gFu σa (by omega) (fu _ (by omega)) ⟨fun _ _ _ _ => rfl, by rw [hσa, gUp_s, upd_s, nI_0], fun s hs => by omega, fun s hs => by omega⟩
  obtain ⟨σ1, ⟨f1, e7, e87, e88⟩, q⟩ := L2
  rw [hc.1] at q
  rw [a102] at e88
  have e86 : ∀ f, f < nf → σ1 86 f = gnv (σ 102) nl day known f := fun f hf => by
    rw [f1 86 (by decide) (by decide) (by decide), hσa, gUp_n (by decide), gRow_s, fa_fill_in hf]
  refine ⟨σ1, ?_, fun k hk => (f1 k (by omega) (by omega) (by omega)).trans (fa k (by omega) (by omega)), e7, e87, ?_⟩
  · unfold M_X7_prepare
    have L1 := l_prep1 (σ := σ) (K := fun _ σ14 => gNm (gUp σ14 85 6 0) (fun σ15 => L16_X7_prepare (nI p) day known gFu (nI p) σ15 (fun _ σ31 => some (0, σ31)))) (a1 := nI p) (day := day) (known := known) hC hX k3 b3 k2 b2 rF nf 0 gFu (by omega) (fu _ (by omega))
    rw [fill0, gRow_id rfl, nI_0] at L1
    rw [L1, gNm_e, ← hσa]
    exact q
  · intro mask t ht σ' hs
    have s : ∀ k, k < 85 ∨ 91 < k → σ' k = σ k := fun k hk => (hs k (by omega) (by omega) (by omega) (by omega)).trans ((f1 k (by omega) (by omega) (by omega)).trans (fa k (by omega) (by omega)))
    have s102 : σ' 102 = σ 102 := s 102 (by omega)
    have hC' : Col σ' (σ' 102) := by rw [s102]; exact hC.same (fun k a b => s k (by omega))
    have h17 : σ' 17 0 = nI nf := by rw [s 17 (by omega)]; exact k2
    have p10 : c t < 10 := by have := hc.2.2.1 t (by omega); omega
    have l87 : σ' 87 t = nI (c t) := by rw [hs 87 (by decide) (by decide) (by decide) (by decide)]; exact e87 t ht
    refine ⟨?_, ?_⟩
    · have := e7_latestGain (σ := σ') (nl := nl) (nf := nf) (at_ := t) (p := c t) (mask := mask) (day := day) (known := known) hC' h17 b2 (by rw [s102]; exact rF) (by rw [s102]; exact rP) (by
        intro f hf
        rw [s102, hs 86 (by decide) (by decide) (by decide) (by decide), e86 f hf]
        by_cases y : gok (σ 102) nl day known f
        · exact Or.inl ⟨y, if_pos y⟩
        · exact Or.inr ⟨y, if_neg y⟩) (by omega) p10 l87 (by rw [s102, hs 88 (by decide) (by decide) (by decide) (by decide)]; exact e88 t ht)
      rw [this, s102]
    · have := e7_parishBy (σ := σ') (nf := nf) (at_ := t) (p := c t) (g := lg (σ 102) nl nf day known mask (c t)) hC' h17 b2 (by omega) p10 l87 (by
        rcases lg_rng (N := σ 102) nl nf day known mask (c t) with e | e | ⟨f, hf, e, _⟩
        · exact Or.inl e
        · exact Or.inr (Or.inl e)
        · exact Or.inr (Or.inr ⟨f, hf, e⟩))
      rw [this, s102, own_lg nl nf day known mask (c t) b2]
