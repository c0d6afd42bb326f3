/-- from one to the next: a chain of len persons from j on, the last has none -/
def Chn (N : Nat → Int32) (nq j len : Nat) (c : Nat → Nat) : Prop := c 0 = j ∧ 0 < len ∧ (∀ t, t < len → c t < nq) ∧ (∀ t, t + 1 < len → N (79 + c t) = nI (c (t + 1))) ∧ N (79 + c (len - 1)) = -1
theorem nIm1 {i : Nat} (h : i < 1000) : ¬ nI i = -1 := (ix_ok (j := i) (n := 1000) h (by decide)).2.2.2.2.2.2.1
theorem chain_ex {N : Nat → Int32} {nq : Nat} (h1 : ∀ j, j < nq → N (79 + j) = -1 ∨ (∃ i, i < nq ∧ N (79 + j) = nI i) ∧ (N (49 + j) = 1 ∨ N (49 + j) = 2)) (rk : Nat → Nat) (h2 : ∀ j i, j < nq → i < nq → N (79 + j) = nI i → rk i < rk j) : ∀ (r j : Nat), rk j < r → j < nq → ∃ len c, Chn N nq j len c := by
  intro r
  induction r with
  | zero => intro j h; omega
  | succ r ih =>
    intro j hr hj
    rcases h1 j hj with q | ⟨⟨i, hi, q⟩, -⟩
    · exact ⟨1, fun _ => j, rfl, by omega, fun _ _ => hj, fun t ht => by omega, q⟩
    · obtain ⟨len, c, e0, hl, hc, hs, he⟩ := ih i (by have := h2 j i hj hi q; omega) hi
      refine ⟨len + 1, fun t => match t with | 0 => j | t + 1 => c t, rfl, by omega, ?_, ?_, ?_⟩
      · intro t ht
        cases t with
        | zero => exact hj
        | succ t => exact hc t (by omega)
      · intro t ht
        cases t with
        | zero =>
          show N (79 + j) = nI (c 0)
          rw [e0]
          exact q
        | succ t => exact hs t (by omega)
      · obtain ⟨l, rfl⟩ : ∃ l, len = l + 1 := ⟨len - 1, by omega⟩
        exact he
theorem Chn.inj {N : Nat → Int32} {nq j len : Nat} {c : Nat → Nat} (h : Chn N nq j len c) (rk : Nat → Nat) (h2 : ∀ j i, j < nq → i < nq → N (79 + j) = nI i → rk i < rk j) : len ≤ nq := by
  obtain ⟨e0, hl, hc, hs, he⟩ := h
  have dec : ∀ d t, t + d + 1 < len → rk (c (t + d + 1)) < rk (c t) := by
    intro d
    induction d with
    | zero => intro t ht; exact h2 _ _ (hc t (by omega)) (hc (t + 1) (by omega)) (hs t (by omega))
    | succ d ih =>
      intro t ht
      have a := ih t (by omega)
      have b := h2 _ _ (hc (t + d + 1) (by omega)) (hc (t + d + 1 + 1) (by omega)) (hs (t + d + 1) (by omega))
      have e : t + (d + 1) + 1 = t + d + 1 + 1 := by omega
      rw [e]
      omega
  refine fb_holes nq len c hc (fun a b hab hb e => ?_)
  have := dec (b - a - 1) a (by omega)
  rw [show a + (b - a - 1) + 1 = b by omega, e] at this
  omega
theorem RgL.chain {N : Nat → Int32} {nq : Nat} (h : RgL N nq) {j : Nat} (hj : j < nq) : ∃ len c, Chn N nq j len c ∧ len ≤ nq := by
  obtain ⟨h1, rk, h2⟩ := h
  obtain ⟨len, c, hc⟩ := chain_ex h1 rk h2 (rk j + 1) j (by omega) hj
  exact ⟨len, c, hc, hc.inj rk h2⟩
/-- the t-th of the chain, or -1 -/
def cx (len : Nat) (c : Nat → Nat) (t : Nat) : Int32 := if t < len then nI (c t) else -1
theorem Chn.next {N : Nat → Int32} {nq j len : Nat} {c : Nat → Nat} (h : Chn N nq j len c) {t : Nat} (ht : t < len) : N (79 + c t) = cx len c (t + 1) := by
  obtain ⟨e0, hl, hc, hs, he⟩ := h
  unfold cx
  by_cases q : t + 1 < len
  · rw [if_pos q]
    exact hs t q
  · rw [if_neg q, show t = len - 1 by omega]
    exact he
theorem l_link_no {σ : gSt} {K : Int32 → gSt → gO} {nq j len p : Nat} {c : Nat → Nat} {a2 a3 : Int32} (h : Chn (σ 102) nq j len c) (hb : nq ≤ 10) (hp : p < 10) : ∀ (d t n : Nat), t + d = len → d < n → (∀ s, t ≤ s → s < len → c s ≠ p) → L1_X10_link (nI p) a2 a3 n (cx len c t) σ K = K (-1) σ := by
  intro d
  induction d with
  | zero =>
    intro t n ht hn _
    obtain ⟨n, rfl⟩ : ∃ k, n = k + 1 := ⟨n - 1, by omega⟩
    rw [L1_X10_link, show cx len c t = -1 from if_neg (by omega), if_pos (by decide)]
  | succ d ih =>
    intro t n ht hn hno
    obtain ⟨n, rfl⟩ : ∃ k, n = k + 1 := ⟨n - 1, by omega⟩
    have hct := h.2.2.1 t (by omega)
    have v := ix_ok hct (show nq < 2 ^ 30 by omega)
    rw [L1_X10_link, show cx len c t = nI (c t) from if_pos (by omega), if_neg v.2.2.2.1, if_neg (by rw [nI_eq (by omega) (by omega)]; exact hno t (by omega) (by omega)), li_79, gIx_n (by omega) (by omega), gNm_e, nI_tn (by omega), h.next (by omega)]
    exact ih (t + 1) n (by omega) (by omega) (fun s h1 h2 => hno s (by omega) h2)
theorem l_link_yes {σ : gSt} {K : Int32 → gSt → gO} {nq j len p t0 : Nat} {c : Nat → Nat} {a2 a3 : Int32} (h : Chn (σ 102) nq j len c) (hb : nq ≤ 10) (hp : p < 10) (h0 : t0 < len) (e0 : c t0 = p) : ∀ (d t n : Nat), t + d = t0 → d < n → (∀ s, t ≤ s → s < t0 → c s ≠ p) → L1_X10_link (nI p) a2 a3 n (cx len c t) σ K = some (-100007, gFm σ) := by
  intro d
  induction d with
  | zero =>
    intro t n ht hn _
    obtain ⟨n, rfl⟩ : ∃ k, n = k + 1 := ⟨n - 1, by omega⟩
    have e : t = t0 := by omega
    subst e
    have hct := h.2.2.1 t (by omega)
    have v := ix_ok hct (show nq < 2 ^ 30 by omega)
    rw [L1_X10_link, show cx len c t = nI (c t) from if_pos (by omega), if_neg v.2.2.2.1, if_pos (by rw [e0]), e10_finding, gBd_s]
  | succ d ih =>
    intro t n ht hn hno
    obtain ⟨n, rfl⟩ : ∃ k, n = k + 1 := ⟨n - 1, by omega⟩
    have hct := h.2.2.1 t (by omega)
    have v := ix_ok hct (show nq < 2 ^ 30 by omega)
    rw [L1_X10_link, show cx len c t = nI (c t) from if_pos (by omega), if_neg v.2.2.2.1, if_neg (by rw [nI_eq (by omega) (by omega)]; exact hno t (by omega) (by omega)), li_79, gIx_n (by omega) (by omega), gNm_e, nI_tn (by omega), h.next (by omega)]
    exact ih (t + 1) n (by omega) (by omega) (fun s h1 h2 => hno s (by omega) h2)
theorem l_comes_no {σ : gSt} {nq j len p : Nat} {c : Nat → Nat} {a1 : Int32} (h : Chn (σ 102) nq j len c) (hb : nq ≤ 10) (hlen : len ≤ 10) (hp : p < 10) (k1 : σ 11 0 = nI nq) (h15 : ∀ q, q < 10 → σ 15 q = σ 102 (79 + q)) : ∀ (d t n : Nat), t + d = len → d < n → (∀ s, t ≤ s → s < len → c s ≠ p) → L1_X5_comesTo a1 (nI p) n (nI t) (cx len c t) σ (fun _ _ σ => some (0, σ)) = some (0, σ) := by
  intro d
  induction d with
  | zero =>
    intro t n ht hn _
    obtain ⟨n, rfl⟩ : ∃ k, n = k + 1 := ⟨n - 1, by omega⟩
    rw [L1_X5_comesTo, show cx len c t = -1 from if_neg (by omega)]
    by_cases q : 10 ≤ nI t
    · rw [if_pos q]
    · rw [if_neg q, e5_has, gBd_s, if_neg (show ¬ ((0 : Int32) ≤ -1 ∧ -1 < σ 11 0) from fun y => absurd y.1 (by decide)), if_pos (show (0 : Int32) = 0 from rfl)]
  | succ d ih =>
    intro t n ht hn hno
    obtain ⟨n, rfl⟩ : ∃ k, n = k + 1 := ⟨n - 1, by omega⟩
    have hct := h.2.2.1 t (by omega)
    have v := ix_ok hct (show nq < 2 ^ 30 by omega)
    have q : ¬ 10 ≤ nI t := nle (b := 10) (by omega) (by omega)
    rw [L1_X5_comesTo, show cx len c t = nI (c t) from if_pos (by omega), if_neg q, e5_has, gBd_s, k1, if_pos (show 0 ≤ nI (c t) ∧ nI (c t) < nI nq from ⟨v.1, v.2.1⟩), if_neg (show ¬ (1 : Int32) = 0 by decide), if_neg (show ¬ nI (c t) = nI p by rw [nI_eq (by omega) (by omega)]; exact hno t (by omega) (by omega)), gIx_n (by omega) (by omega), gNm_e, gNm_e, nI_tn (by omega), h15 _ (by omega), h.next (by omega), nI_1]
    exact ih (t + 1) n (by omega) (by omega) (fun s h1 h2 => hno s (by omega) h2)
theorem l_comes_yes {σ : gSt} {nq j len p t0 : Nat} {c : Nat → Nat} {a1 : Int32} (h : Chn (σ 102) nq j len c) (hb : nq ≤ 10) (hlen : len ≤ 10) (hp : p < 10) (k1 : σ 11 0 = nI nq) (h15 : ∀ q, q < 10 → σ 15 q = σ 102 (79 + q)) (h0 : t0 < len) (e0 : c t0 = p) : ∀ (d t n : Nat), t + d = t0 → d < n → (∀ s, t ≤ s → s < t0 → c s ≠ p) → L1_X5_comesTo a1 (nI p) n (nI t) (cx len c t) σ (fun _ _ σ => some (0, σ)) = some (1, σ) := by
  intro d
  induction d with
  | zero =>
    intro t n ht hn _
    obtain ⟨n, rfl⟩ : ∃ k, n = k + 1 := ⟨n - 1, by omega⟩
    have e : t = t0 := by omega
    subst e
    have hct := h.2.2.1 t (by omega)
    have v := ix_ok hct (show nq < 2 ^ 30 by omega)
    have q : ¬ 10 ≤ nI t := nle (b := 10) (by omega) (by omega)
    rw [L1_X5_comesTo, show cx len c t = nI (c t) from if_pos (by omega), if_neg q, e5_has, gBd_s, k1, if_pos (show 0 ≤ nI (c t) ∧ nI (c t) < nI nq from ⟨v.1, v.2.1⟩), if_neg (show ¬ (1 : Int32) = 0 by decide), if_pos (by rw [e0])]
  | succ d ih =>
    intro t n ht hn hno
    obtain ⟨n, rfl⟩ : ∃ k, n = k + 1 := ⟨n - 1, by omega⟩
    have hct := h.2.2.1 t (by omega)
    have v := ix_ok hct (show nq < 2 ^ 30 by omega)
    have q : ¬ 10 ≤ nI t := nle (b := 10) (by omega) (by omega)
    rw [L1_X5_comesTo, show cx len c t = nI (c t) from if_pos (by omega), if_neg q, e5_has, gBd_s, k1, if_pos (show 0 ≤ nI (c t) ∧ nI (c t) < nI nq from ⟨v.1, v.2.1⟩), if_neg (show ¬ (1 : Int32) = 0 by decide), if_neg (show ¬ nI (c t) = nI p by rw [nI_eq (by omega) (by omega)]; exact hno t (by omega) (by omega)), gIx_n (by omega) (by omega), gNm_e, gNm_e, nI_tn (by omega), h15 _ (by omega), h.next (by omega), nI_1]
    exact ih (t + 1) n (by omega) (by omega) (fun s h1 h2 => hno s (by omega) h2)
/-- i comes to p -/
def Rch (N : Nat → Int32) (nq p i : Nat) : Prop := ∃ (t : Nat) (c : Nat → Nat), c 0 = i ∧ c t = p ∧ ∀ s, s < t → c s < nq ∧ c (s + 1) < nq ∧ N (79 + c s) = nI (c (s + 1))
theorem Rch.pre {N : Nat → Int32} {nq p i z : Nat} (hi : i < nq) (hz : z < nq) (e : N (79 + i) = nI z) (h : Rch N nq p z) : Rch N nq p i := by
  obtain ⟨t, c, c0, ct, hs⟩ := h
  refine ⟨t + 1, fun s => match s with | 0 => i | s + 1 => c s, rfl, ct, fun s h1 => ?_⟩
  cases s with
  | zero => exact ⟨hi, by show c 0 < nq; rw [c0]; exact hz, by show N (79 + i) = nI (c 0); rw [c0]; exact e⟩
  | succ s => exact hs s (by omega)
theorem Rch.post {N : Nat → Int32} {nq p i z : Nat} (hb : nq ≤ 10) (hz : z < nq) (hp : i ≠ p) (e : N (79 + i) = nI z) (h : Rch N nq p i) : Rch N nq p z := by
  obtain ⟨t, c, c0, ct, hs⟩ := h
  cases t with
  | zero => exact absurd (c0.symm.trans ct) hp
  | succ t =>
    obtain ⟨a1, a2, a3⟩ := hs 0 (by omega)
    have a2 : c 1 < nq := a2
    rw [c0, e] at a3
    have : z = c 1 := (nI_eq (by omega) (by omega)).mp a3
    exact ⟨t, fun s => c (s + 1), this.symm, ct, fun s h1 => hs (s + 1) (by omega)⟩
theorem Rch.not {N : Nat → Int32} {nq p b len : Nat} {c : Nat → Nat} (hb : nq ≤ 10) (h : Chn N nq b len c) (hno : ∀ s, s < len → c s ≠ p) : ¬ Rch N nq p b := by
  rintro ⟨t, c', c0, ct, hs⟩
  have key : ∀ s, s ≤ t → s < len ∧ c' s = c s := by
    intro s
    induction s with
    | zero => intro _; exact ⟨h.2.1, c0.trans h.1.symm⟩
    | succ s ih =>
      intro hst
      obtain ⟨i1, i2⟩ := ih (by omega)
      obtain ⟨a1, a2, a3⟩ := hs s (by omega)
      have nx := h.next i1
      rw [← i2, a3] at nx
      unfold cx at nx
      by_cases q : s + 1 < len
      · rw [if_pos q] at nx
        have := h.2.2.1 (s + 1) q
        exact ⟨q, (nI_eq (by omega) (by omega)).mp nx⟩
      · rw [if_neg q] at nx
        exact absurd nx (nIm1 (by omega))
  obtain ⟨k1, k2⟩ := key t (Nat.le_refl t)
  exact hno t k1 (k2.symm.trans ct)
/-- a new link keeps to what links keep to -/
theorem RgL.link {N : Nat → Int32} {nq p : Nat} {v x : Int32} (hb : nq ≤ 10) (hp : p < nq) (h : RgL N nq) (hk : N (49 + p) = 1 ∨ N (49 + p) = 2) (hv : v = -1 ∨ ∃ b len c, v = nI b ∧ b < nq ∧ Chn N nq b len c ∧ ∀ s, s < len → c s ≠ p) : RgL (upd (upd N (79 + p) v) (89 + p) x) nq := by
  obtain ⟨h1, rk, h2⟩ := h
  refine ⟨fun j hj => ?_, ?_⟩
  · by_cases e : j = p
    · subst e
      simp (disch := omega) only [upd_n, upd_s]
      rcases hv with q | ⟨b, len, c, q, hb2, -⟩
      · exact Or.inl q
      · exact Or.inr ⟨⟨b, hb2, q⟩, hk⟩
    · simp (disch := omega) only [upd_n, upd_s]
      exact h1 j hj
  · rcases hv with q | ⟨b, len, c, q, hb2, hc, hno⟩
    · refine ⟨rk, fun j i hj hi e => ?_⟩
      by_cases ej : j = p
      · subst ej
        simp (disch := omega) only [upd_n, upd_s] at e
        rw [q] at e
        exact absurd e.symm (nIm1 (by omega))
      · simp (disch := omega) only [upd_n, upd_s] at e
        exact h2 j i hj hi e
    · obtain ⟨f, hf⟩ : ∃ f : Nat → Nat, ∀ i, (Rch N nq p i → f i = rk i + (rk b + 1)) ∧ (¬ Rch N nq p i → f i = rk i) := by
        classical
        exact ⟨fun i => if Rch N nq p i then rk i + (rk b + 1) else rk i, fun i => ⟨fun y => if_pos y, fun y => if_neg y⟩⟩
      have nb := Rch.not hb hc hno
      refine ⟨f, fun j i hj hi e => ?_⟩
      by_cases ej : j = p
      · subst ej
        simp (disch := omega) only [upd_n, upd_s] at e
        rw [q] at e
        have : b = i := (nI_eq (by omega) (by omega)).mp e
        subst this
        rw [(hf b).2 nb, (hf j).1 ⟨0, fun _ => j, rfl, rfl, fun s hs => by omega⟩]
        omega
      · simp (disch := omega) only [upd_n, upd_s] at e
        have := h2 j i hj hi e
        by_cases y : Rch N nq p j
        · rw [(hf j).1 y, (hf i).1 (Rch.post hb hi ej e y)]
          omega
        · rw [(hf j).2 y, (hf i).2 (fun z => y (Rch.pre hj hi e z))]
          omega
/-- a link: both tell RING, or both make it -/
theorem Inv.link {σ : gSt} (h : Inv σ) {nq p : Nat} (hq : σ 102 1 = nI nq) (hb : nq ≤ 10) (hp : p < nq) {v : Int32} (hv : v = -1 ∨ ∃ b, b < nq ∧ v = nI b) (hk : σ 102 (49 + p) = 1 ∨ σ 102 (49 + p) = 2) :
    (M_X5_comesTo v (nI p) σ = some (1, σ) ∧ ∀ (σ' : gSt) (d : Int32), σ' 102 = σ 102 → M_X10_link (nI p) v d σ' = some (-100007, gFm σ')) ∨
    (M_X5_comesTo v (nI p) σ = some (0, σ) ∧ (∀ (σ' : gSt) (d : Int32), σ' 102 = σ 102 → M_X10_link (nI p) v d σ' = some (σ 102 (79 + p), (gUp (gUp σ' 102 (79 + p) v) 102 (89 + p) d))) ∧ ∀ d d' : Int32, (0 ≤ v → d = d') → Inv (gUp (gUp (gUp (gUp σ 15 p v) 16 p d) 102 (79 + p) v) 102 (89 + p) d')) := by
  obtain ⟨np, nq', nf, nl, no, hR, hC, hX, ⟨k0, k1, k2, k3, k4⟩, ⟨m0, m1, m2, m3, m4⟩, ⟨b0, b1, b2, b3, b4⟩⟩ := h.nums
  have : nq' = nq := (nI_eq (by omega) (by omega)).mp (m1.symm.trans hq)
  subst this
  obtain ⟨rA, rT, rW, rP, rS, rZ, rL, rF, rD, rO⟩ := hR
  have h15 : ∀ q, q < 10 → σ 15 q = σ 102 (79 + q) := fun q hq => hC.get0 15 79 10 (by decide) hq
  have fin : (v = -1 ∨ ∃ b len c, v = nI b ∧ b < nq' ∧ Chn (σ 102) nq' b len c ∧ ∀ s, s < len → c s ≠ p) → ∀ d d' : Int32, (0 ≤ v → d = d') → Inv (gUp (gUp (gUp (gUp σ 15 p v) 16 p d) 102 (79 + p) v) 102 (89 + p) d') := by
    intro hv2 d d' hd
    refine h.book ?_ (fun k hk => by simp (disch := omega) only [gUp_n, gUp_s])
    simp (disch := omega) only [gUp_n, gUp_s]
    refine Bk.same (c := (gUp (gUp σ 15 p v) 16 p d)) ?_ (fun k h1 h2 => by simp (disch := omega) only [gUp_n, gUp_s])
    refine ⟨((hC.up0 15 79 10 (by decide) (show p < 10 by omega) v).c 16 (by decide) p d).N (89 + p) (by intro q hq; have : q.2.2.1 + q.2.2.2 ≤ 89 ∨ 99 ≤ q.2.2.1 := (by decide +kernel : ∀ q ∈ colT, q.2.2.1 + q.2.2.2 ≤ 89 ∨ 99 ≤ q.2.2.1) q hq; omega) d', ?_, np, nq', nf, nl, no, ⟨⟨by simp (disch := omega) only [upd_n, upd_s]; exact m0, by simp (disch := omega) only [upd_n, upd_s]; exact m1, by simp (disch := omega) only [upd_n, upd_s]; exact m2, by simp (disch := omega) only [upd_n, upd_s]; exact m3, by simp (disch := omega) only [upd_n, upd_s]; exact m4⟩, by omega⟩, rT.same (by simp (disch := omega) only [upd_n, upd_s]), rW.same (fun i hi => by simp (disch := omega) only [upd_n, upd_s]), rP.same (fun i hi => by simp (disch := omega) only [upd_n, upd_s]), rS.same (fun i hi => by simp (disch := omega) only [upd_n, upd_s]), rZ.same (by omega) (fun j h1 h2 => by simp (disch := omega) only [upd_n, upd_s]; exact ⟨trivial, trivial, trivial⟩), rL.link hb hp hk hv2, rF.same (fun i hi => by simp (disch := omega) only [upd_n, upd_s]), rD.same (fun i hi => by simp (disch := omega) only [upd_n, upd_s]) (by omega), rO.same (by omega) (by omega) (fun i hi => by simp (disch := omega) only [upd_n, upd_s])⟩
    obtain ⟨x1, x2, x3⟩ := hX
    refine ⟨fun j' hj' => ?_, fun j' hj' => ?_, fun j' hj' => ?_⟩
    · by_cases e : j' = p
      · subst e
        simp (disch := omega) only [gUp_n, gUp_s]
        simp (disch := omega) only [upd_n, upd_s]
        exact hd
      · simp (disch := omega) only [gUp_n, gUp_s]
        simp (disch := omega) only [upd_n, upd_s]
        exact x1 j' hj'
    · simp (disch := omega) only [gUp_n, gUp_s]
      simp (disch := omega) only [upd_n, upd_s]
      exact x2 j' hj'
    · simp (disch := omega) only [gUp_n, gUp_s]
      simp (disch := omega) only [upd_n, upd_s]
      exact x3 j' hj'
  have lk : ∀ (σ' : gSt) (d : Int32), σ' 102 = σ 102 → (∀ K : Int32 → gSt → gO, L1_X10_link (nI p) v d gFu v σ' K = K (-1) σ') → M_X10_link (nI p) v d σ' = some (σ 102 (79 + p), (gUp (gUp σ' 102 (79 + p) v) 102 (89 + p) d)) := by
    intro σ' d e L
    unfold M_X10_link
    rw [L, li_79, li_89, gIx_n (by omega) (by omega), gNm_e, gIx_n (by omega) (by omega), gNm_e, gIx_n (by omega) (by omega), gNm_e, nI_tn (by omega), nI_tn (by omega), e]
  rcases hv with rfl | ⟨b, hb2, rfl⟩
  · right
    refine ⟨?_, ?_, fin (Or.inl rfl)⟩
    · unfold M_X5_comesTo
      obtain ⟨n, fn⟩ : ∃ n, gFu = n + 1 := ⟨999, rfl⟩
      rw [fn, L1_X5_comesTo, if_neg (by decide), e5_has, gBd_s, if_neg (show ¬ ((0 : Int32) ≤ -1 ∧ -1 < σ 11 0) from fun y => absurd y.1 (by decide)), if_pos (show (0 : Int32) = 0 from rfl)]
    · intro σ' d e
      refine lk σ' d e (fun K => ?_)
      obtain ⟨n, fn⟩ : ∃ n, gFu = n + 1 := ⟨999, rfl⟩
      rw [fn, L1_X10_link, if_pos (by decide)]
  · obtain ⟨len, c, hc, hlen⟩ := rL.chain hb2
    have c0 : cx len c 0 = nI b := by
      unfold cx
      rw [if_pos hc.2.1, hc.1]
    by_cases hno : ∀ s, s < len → c s ≠ p
    · right
      refine ⟨?_, ?_, fin (Or.inr ⟨b, len, c, rfl, hb2, hc, hno⟩)⟩
      · unfold M_X5_comesTo
        rw [← c0]
        exact l_comes_no hc hb (by omega) (by omega) k1 h15 len 0 gFu (by omega) (fu _ (by omega)) (fun s _ hs => hno s hs)
      · intro σ' d e
        refine lk σ' d e (fun K => ?_)
        rw [← c0]
        exact l_link_no (by rw [e]; exact hc) hb (by omega) len 0 gFu (by omega) (fu _ (by omega)) (fun s _ hs => hno s hs)
    · left
      have hy : ∃ s, s < len ∧ c s = p := Classical.byContradiction fun q => hno fun s hs e => q ⟨s, hs, e⟩
      obtain ⟨t0, h0, e0, hf⟩ := fb_first (p := fun s => c s = p) hy
      refine ⟨?_, ?_⟩
      · unfold M_X5_comesTo
        rw [← c0]
        exact l_comes_yes hc hb (by omega) (by omega) k1 h15 h0 e0 t0 0 gFu (by omega) (fu _ (by omega)) (fun s _ hs => hf s hs)
      · intro σ' d e
        unfold M_X10_link
        rw [← c0]
        exact l_link_yes (by rw [e]; exact hc) hb (by omega) h0 e0 t0 0 gFu (by omega) (fu _ (by omega)) (fun s _ hs => hf s hs)
