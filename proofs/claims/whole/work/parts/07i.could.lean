theorem ob_lt {r : Int32} (h : r = -1 ∨ ∃ k, k ≤ 5 ∧ r = nI k) : ∃ m, m < 128 ∧ ob r = nI m := by
  rcases h with rfl | ⟨k, hk, rfl⟩
  · exact ⟨64, by decide, by decide⟩
  · refine ⟨2 ^ k, ?_, ?_⟩
    · have := Nat.pow_le_pow_right (show 0 < 2 by decide) hk
      omega
    · unfold ob
      rw [if_neg (nIm1 (by omega)), p2w k (by omega)]
theorem oz_lt {b : Nat → Bool} {u : Nat → Int32} (h : ∀ w, ∃ m, m < 128 ∧ u w = nI m) : ∀ n, ∃ m, m < 128 ∧ oz b u n = nI m
  | 0 => ⟨0, by decide, rfl⟩
  | n + 1 => by
    obtain ⟨m1, h1, e1⟩ := oz_lt h n (b := b)
    obtain ⟨m2, h2, e2⟩ := h n
    rw [oz]
    by_cases c : b n = true
    · rw [if_pos c, e1, e2, fa_or]
      exact ⟨_, Nat.or_lt_two_pow (n := 7) h1 h2, rfl⟩
    · rw [if_neg c, e1]
      exact ⟨m1, h1, rfl⟩
/-- how many bits -/
def mb (x : Int32) : Int32 := fo (fun j a => a + bt x j) 7 0 0
/-! ===== the class's turns ===== -/
/-- what stands behind the first t turns -/
def Tn (σ σ' : gSt) (g v : Int32 → Int32) (t : Nat) : Prop := (∀ q, q ≠ 85 → q ≠ 89 → q ≠ 90 → σ' q = σ q) ∧ σ' 85 6 = σ 85 6 ∧ σ' 85 7 = nI t ∧ (∀ s, s < t → σ' 89 s = g (Ms g s) ∧ σ' 90 s = tw g v s)
theorem Tn.step {σ σ' : gSt} {g v : Int32 → Int32} {t : Nat} (h : Tn σ σ' g v t) {x : Int32} (hx : x = tw g v t) : Tn σ (gUp (gUp (gUp σ' 89 t (g (Ms g t))) 90 t x) 85 7 (nI (t + 1))) g v (t + 1) := by
  obtain ⟨f, e6, e7, es⟩ := h
  refine ⟨fun q a b c => by rw [gUp_n a, gUp_n c, gUp_n b]; exact f q a b c, ?_, ?_, fun s hs => ⟨?_, ?_⟩⟩
  · rw [gUp_s, upd_n (by decide), gUp_n (by decide), gUp_n (by decide)]; exact e6
  · rw [gUp_s, upd_s]
  · rw [gUp_n (by decide), gUp_n (by decide), gUp_s]
    by_cases c : s = t
    · rw [c, upd_s]
    · rw [upd_n c]; exact (es s (by omega)).1
  · rw [gUp_n (by decide), gUp_s]
    by_cases c : s = t
    · rw [c, upd_s, hx]
    · rw [upd_n c, gUp_n (by decide)]; exact (es s (by omega)).2
/-- the end of a turn: on, if its gain is doubted -/
theorem l_tail {σ : gSt} {N : Nat → Int32} {nf n : Nat} {l r : Int32} {K : Int32 → Int32 → gSt → gO} (h17 : σ 17 0 = nI nf) (hb : nf ≤ 24) (h25 : ∀ j, j < 24 → σ 25 j = N (297 + j)) (hr : r = -2 ∨ r = -1 ∨ ∃ f, f < nf ∧ r = nI f) :
    (dbt N nf r ∧ gBd (M_X1_has r σ) (fun r33 σ32 => if r33 = 0 then (gNm ((l ||| 0) : Int32) (fun x36 => L2_X7_takeTurns n 0 x36 σ32 K)) else (gBd (M_X1_isDoubted r σ32) (fun r38 σ37 => if r38 = 0 then (gNm ((l ||| 0) : Int32) (fun x41 => L2_X7_takeTurns n 0 x41 σ37 K)) else (gNm ((l ||| ((1 : Int32) <<< (r &&& 31))) : Int32) (fun x43 => L2_X7_takeTurns n 1 x43 σ37 K))))) = L2_X7_takeTurns n 1 (l ||| ((1 : Int32) <<< (r &&& 31))) σ K) ∨
    (¬ dbt N nf r ∧ gBd (M_X1_has r σ) (fun r33 σ32 => if r33 = 0 then (gNm ((l ||| 0) : Int32) (fun x36 => L2_X7_takeTurns n 0 x36 σ32 K)) else (gBd (M_X1_isDoubted r σ32) (fun r38 σ37 => if r38 = 0 then (gNm ((l ||| 0) : Int32) (fun x41 => L2_X7_takeTurns n 0 x41 σ37 K)) else (gNm ((l ||| ((1 : Int32) <<< (r &&& 31))) : Int32) (fun x43 => L2_X7_takeTurns n 1 x43 σ37 K))))) = L2_X7_takeTurns n 0 (l ||| 0) σ K) := by
  rw [e1_has, gBd_s, h17]
  rcases hr with rfl | rfl | ⟨f, hf, rfl⟩
  · right
    rw [if_neg (show ¬ ((0 : Int32) ≤ -2 ∧ -2 < nI nf) from fun y => absurd y.1 (by decide)), if_pos (show (0 : Int32) = 0 from rfl), gNm_e]
    refine ⟨fun y => ?_, rfl⟩
    obtain ⟨f, hf, e, _⟩ := y
    exact nIm2 (by omega) e.symm
  · right
    rw [if_neg (show ¬ ((0 : Int32) ≤ -1 ∧ -1 < nI nf) from fun y => absurd y.1 (by decide)), if_pos (show (0 : Int32) = 0 from rfl), gNm_e]
    refine ⟨fun y => ?_, rfl⟩
    obtain ⟨f, hf, e, _⟩ := y
    exact nIm1 (by omega) e.symm
  · have w := ix_ok hf (by omega)
    rw [if_pos (show 0 ≤ nI f ∧ nI f < nI nf from ⟨w.1, w.2.1⟩), if_neg (show ¬ (1 : Int32) = 0 by decide), e1_isDoubted σ (j := f) (by omega), gBd_s, h25 f (by omega)]
    by_cases y : N (297 + f) = 1
    · left
      rw [if_pos y, if_neg (show ¬ (1 : Int32) = 0 by decide), gNm_e]
      exact ⟨⟨f, hf, rfl, y⟩, rfl⟩
    · right
      rw [if_neg y, if_pos (show (0 : Int32) = 0 from rfl), gNm_e]
      refine ⟨fun w => y ?_, rfl⟩
      obtain ⟨f', hf', e, z⟩ := w
      rw [(nI_eq (by omega) (by omega)).mp e]
      exact z
theorem l_turns {σ : gSt} {N : Nat → Int32} {nf nt : Nat} {g v : Int32 → Int32} (h17 : σ 17 0 = nI nf) (hb : nf ≤ 24) (h25 : ∀ j, j < 24 → σ 25 j = N (297 + j)) (hc : Chs nf g v) (ht : Trn N nf g nt) (hT : ∀ (m : Int32) (σ' : gSt), (∀ q, q ≠ 85 → q ≠ 89 → q ≠ 90 → σ' q = σ q) → σ' 85 6 = σ 85 6 → ∃ a, M_X7_teller m σ' = some (a, σ') ∧ M_X7_latestGain a m σ' = some (g m, σ') ∧ M_X7_parishBy a (g m) σ' = some (v m, σ')) :
    ∀ (m t n : Nat) (σ' : gSt), t + m + 1 = nt → m + 1 < n → Tn σ σ' g v t → ∃ σ'', Tn σ σ'' g v nt ∧ L2_X7_takeTurns n 1 (Ms g t) σ' (fun _ _ s => some (0, s)) = some (0, σ'') := by
  obtain ⟨n0, n9, h1, h2⟩ := ht
  have hr : ∀ m, g m = -2 ∨ g m = -1 ∨ ∃ f, f < nf ∧ g m = nI f := fun m => by
    rcases hc.2 m with e | e | ⟨f, hf, e, _⟩
    · exact Or.inl e
    · exact Or.inr (Or.inl e)
    · exact Or.inr (Or.inr ⟨f, hf, e⟩)
  -- one turn
  have one : ∀ (t n : Nat) (σ' : gSt), t < nt → Tn σ σ' g v t → ∃ σ'', Tn σ σ'' g v (t + 1) ∧ ((dbt N nf (g (Ms g t)) ∧ ∀ K, L2_X7_takeTurns (n + 1) 1 (Ms g t) σ' K = L2_X7_takeTurns n 1 (Ms g (t + 1)) σ'' K) ∨ (¬ dbt N nf (g (Ms g t)) ∧ ∀ K, L2_X7_takeTurns (n + 1) 1 (Ms g t) σ' K = L2_X7_takeTurns n 0 (Ms g t ||| 0) σ'' K)) := by
    intro t n σ' htn hP
    obtain ⟨a, q1, q2, q3⟩ := hT (Ms g t) σ' hP.1 hP.2.1
    have e7 := hP.2.2.1
    have ea : (gUp σ' 89 t (g (Ms g t))) 85 7 = nI t := by rw [gUp_n (by decide)]; exact e7
    by_cases y : v (Ms g t) = -1
    · have ex : (64 : Int32) = tw g v t := (if_pos y).symm
      have S := hP.step ex
      obtain ⟨σ'', hσ⟩ : ∃ s, s = gUp (gUp (gUp σ' 89 t (g (Ms g t))) 90 t 64) 85 7 (nI (t + 1)) := ⟨_, rfl⟩
      rw [← hσ] at S
      have go : ∀ K, L2_X7_takeTurns (n + 1) 1 (Ms g t) σ' K = gBd (M_X1_has (g (Ms g t)) σ'') (fun r33 σ32 => if r33 = 0 then (gNm ((Ms g t ||| 0) : Int32) (fun x36 => L2_X7_takeTurns n 0 x36 σ32 K)) else (gBd (M_X1_isDoubted (g (Ms g t)) σ32) (fun r38 σ37 => if r38 = 0 then (gNm ((Ms g t ||| 0) : Int32) (fun x41 => L2_X7_takeTurns n 0 x41 σ37 K)) else (gNm ((Ms g t ||| ((1 : Int32) <<< (g (Ms g t) &&& 31))) : Int32) (fun x43 => L2_X7_takeTurns n 1 x43 σ37 K))))) := by
        intro K
        rw [L2_X7_takeTurns, e7, if_neg (show ¬ (9 : Int32) ≤ nI t from nle (b := 9) (by omega) (by omega)), if_neg (show ¬ (1 : Int32) = 0 by decide), q1, gBd_s, q2, gBd_s, q3, gBd_s, e7, gIx_n (by omega) (by omega), gNm_e, if_pos y, nI_tn (by omega), ea, gIx_n (by omega) (by omega), gNm_e, gNm_e, nI_tn (by omega), show (1 : Int32) <<< (6 &&& 31) = 64 by decide, gUp_n (show 85 ≠ 90 by decide), ea, nI_1, ← hσ]
      refine ⟨σ'', S, ?_⟩
      have L := fun K => l_tail (σ := σ'') (N := N) (nf := nf) (n := n) (l := Ms g t) (r := g (Ms g t)) (K := K) (by rw [S.1 17 (by decide) (by decide) (by decide)]; exact h17) hb (by rw [S.1 25 (by decide) (by decide) (by decide)]; exact h25) (hr _)
      by_cases z : dbt N nf (g (Ms g t))
      · exact Or.inl ⟨z, fun K => (go K).trans ((L K).elim (fun w => w.2) (fun w => absurd z w.1))⟩
      · exact Or.inr ⟨z, fun K => (go K).trans ((L K).elim (fun w => absurd w.1 z) (fun w => w.2))⟩
    · have ex : (1 : Int32) <<< (v (Ms g t) &&& 31) = tw g v t := (if_neg y).symm
      have S := hP.step ex
      obtain ⟨σ'', hσ⟩ : ∃ s, s = gUp (gUp (gUp σ' 89 t (g (Ms g t))) 90 t ((1 : Int32) <<< (v (Ms g t) &&& 31))) 85 7 (nI (t + 1)) := ⟨_, rfl⟩
      rw [← hσ] at S
      have go : ∀ K, L2_X7_takeTurns (n + 1) 1 (Ms g t) σ' K = gBd (M_X1_has (g (Ms g t)) σ'') (fun r33 σ32 => if r33 = 0 then (gNm ((Ms g t ||| 0) : Int32) (fun x36 => L2_X7_takeTurns n 0 x36 σ32 K)) else (gBd (M_X1_isDoubted (g (Ms g t)) σ32) (fun r38 σ37 => if r38 = 0 then (gNm ((Ms g t ||| 0) : Int32) (fun x41 => L2_X7_takeTurns n 0 x41 σ37 K)) else (gNm ((Ms g t ||| ((1 : Int32) <<< (g (Ms g t) &&& 31))) : Int32) (fun x43 => L2_X7_takeTurns n 1 x43 σ37 K))))) := by
        intro K
        rw [L2_X7_takeTurns, e7, if_neg (show ¬ (9 : Int32) ≤ nI t from nle (b := 9) (by omega) (by omega)), if_neg (show ¬ (1 : Int32) = 0 by decide), q1, gBd_s, q2, gBd_s, q3, gBd_s, e7, gIx_n (by omega) (by omega), gNm_e, if_neg y, nI_tn (by omega), ea, gIx_n (by omega) (by omega), gNm_e, gNm_e, nI_tn (by omega), gUp_n (show 85 ≠ 90 by decide), ea, nI_1, ← hσ]
      refine ⟨σ'', S, ?_⟩
      have L := fun K => l_tail (σ := σ'') (N := N) (nf := nf) (n := n) (l := Ms g t) (r := g (Ms g t)) (K := K) (by rw [S.1 17 (by decide) (by decide) (by decide)]; exact h17) hb (by rw [S.1 25 (by decide) (by decide) (by decide)]; exact h25) (hr _)
      by_cases z : dbt N nf (g (Ms g t))
      · exact Or.inl ⟨z, fun K => (go K).trans ((L K).elim (fun w => w.2) (fun w => absurd z w.1))⟩
      · exact Or.inr ⟨z, fun K => (go K).trans ((L K).elim (fun w => absurd w.1 z) (fun w => w.2))⟩
  intro m
  induction m with
  | zero =>
    intro t n σ' hi hn hP
    obtain ⟨n, rfl⟩ : ∃ k, n = k + 1 + 1 := ⟨n - 2, by omega⟩
    have et : t = nt - 1 := by omega
    obtain ⟨σ'', S, q⟩ := one t (n + 1) σ' (by omega) hP
    rcases q with ⟨z, _⟩ | ⟨_, q⟩
    · rw [et] at z
      exact absurd z h2
    · refine ⟨σ'', by rw [show nt = t + 1 by omega]; exact S, ?_⟩
      rw [q, L2_X7_takeTurns]
      by_cases c : 9 ≤ σ'' 85 7
      · rw [if_pos c]
      · rw [if_neg c, if_pos (show (0 : Int32) = 0 from rfl)]
  | succ m ih =>
    intro t n σ' hi hn hP
    obtain ⟨n, rfl⟩ : ∃ k, n = k + 1 := ⟨n - 1, by omega⟩
    obtain ⟨σ'', S, q⟩ := one t n σ' (by omega) hP
    rcases q with ⟨_, q⟩ | ⟨z, _⟩
    · rw [q]
      exact ih (t + 1) n σ'' (by omega) (by omega) S
    · exact absurd (h1 t (by omega)) z
theorem e7_takeTurns {σ : gSt} {N : Nat → Int32} {nf nt : Nat} {g v : Int32 → Int32} (h17 : σ 17 0 = nI nf) (hb : nf ≤ 24) (h25 : ∀ j, j < 24 → σ 25 j = N (297 + j)) (hc : Chs nf g v) (ht : Trn N nf g nt) (hT : ∀ (m : Int32) (σ' : gSt), (∀ q, q ≠ 85 → q ≠ 89 → q ≠ 90 → σ' q = σ q) → σ' 85 6 = σ 85 6 → ∃ a, M_X7_teller m σ' = some (a, σ') ∧ M_X7_latestGain a m σ' = some (g m, σ') ∧ M_X7_parishBy a (g m) σ' = some (v m, σ')) : ∃ σ'', Tn σ σ'' g v nt ∧ M_X7_takeTurns σ = some (0, σ'') := by
  have n0 := ht.1
  have n9 := ht.2.1
  unfold M_X7_takeTurns
  rw [gNm_e]
  exact l_turns h17 hb h25 hc ht hT (nt - 1) 0 gFu (gUp σ 85 7 0) (by omega) (fu _ (by omega)) ⟨fun q a _ _ => gUp_n a, by rw [gUp_s, upd_n (by decide)], by rw [gUp_s, upd_s, nI_0], fun s hs => absurd hs (Nat.not_lt_zero s)⟩
theorem l_upTo {σ : gSt} {γ β : Nat → Int32} {nt : Nat} {x : Int32} (n9 : nt ≤ 9) (e7 : σ 85 7 = nI nt) (es : ∀ s, s < nt → σ 89 s = γ s ∧ σ 90 s = β s) : ∀ (m t n : Nat), t + m = nt → m < n → nsn γ x t = true → L1_X7_setUpTo x n (nI t) (oz (nsn γ x) β t) σ (fun _ z s => some (z, s)) = some (oz (nsn γ x) β nt, σ) := by
  intro m
  induction m with
  | zero =>
    intro t n hi hn _
    obtain ⟨n, rfl⟩ : ∃ k, n = k + 1 := ⟨n - 1, by omega⟩
    have e : t = nt := by omega
    subst e
    rw [L1_X7_setUpTo, e7, if_pos (nI_le (Nat.le_refl _) (by omega))]
  | succ m ih =>
    intro t n hi hn hs
    obtain ⟨n, rfl⟩ : ∃ k, n = k + 1 := ⟨n - 1, by omega⟩
    obtain ⟨s1, s2⟩ := es t (by omega)
    have so : oz (nsn γ x) β (t + 1) = oz (nsn γ x) β t ||| β t := by rw [oz, if_pos hs]
    rw [L1_X7_setUpTo, e7, if_neg (nle (by omega) (by omega)), gIx_n (by omega) (by omega), gNm_e, gIx_n (by omega) (by omega), nI_tn (by omega), s1, s2, ← so]
    by_cases c : γ t = x
    · rw [if_pos c]
      rw [oz_stop (b := nsn γ x) (u := β) (t := t + 1) nt (by omega) (fun s a b y => (nsn_iff s).mp y t (by omega) c)]
    · rw [if_neg c, gNm_e, nI_1]
      refine ih (t + 1) n (by omega) (by omega) ?_
      rw [nsn, hs]
      simp [c]
theorem e7_setUpTo {σ : gSt} {γ β : Nat → Int32} {nt : Nat} (x : Int32) (n9 : nt ≤ 9) (e7 : σ 85 7 = nI nt) (es : ∀ s, s < nt → σ 89 s = γ s ∧ σ 90 s = β s) : M_X7_setUpTo x σ = some (oz (nsn γ x) β nt, σ) := by
  unfold M_X7_setUpTo
  exact l_upTo n9 e7 es nt 0 gFu (by omega) (fu _ (by omega)) rfl
theorem l_wout {σ : gSt} {γ β : Nat → Int32} {nt : Nat} {x : Int32} (n9 : nt ≤ 9) (e7 : σ 85 7 = nI nt) (es : ∀ s, s < nt → σ 89 s = γ s ∧ σ 90 s = β s) : ∀ (m t n : Nat), t + m = nt → m < n → L1_X7_setWithout x n (nI t) (oz (fun t => ! decide (γ t = x)) β t) σ (fun _ z s => some (z, s)) = some (oz (fun t => ! decide (γ t = x)) β nt, σ) := by
  intro m
  induction m with
  | zero =>
    intro t n hi hn
    obtain ⟨n, rfl⟩ : ∃ k, n = k + 1 := ⟨n - 1, by omega⟩
    have e : t = nt := by omega
    subst e
    rw [L1_X7_setWithout, e7, if_pos (nI_le (Nat.le_refl _) (by omega))]
  | succ m ih =>
    intro t n hi hn
    obtain ⟨n, rfl⟩ : ∃ k, n = k + 1 := ⟨n - 1, by omega⟩
    obtain ⟨s1, s2⟩ := es t (by omega)
    rw [L1_X7_setWithout, e7, if_neg (nle (by omega) (by omega)), gIx_n (by omega) (by omega), nI_tn (by omega), s1, s2]
    by_cases c : γ t = x
    · have so : oz (fun t => ! decide (γ t = x)) β (t + 1) = oz (fun t => ! decide (γ t = x)) β t := by rw [oz, if_neg (by simp [c])]
      rw [if_pos c, gNm_e, gNm_e, nI_1, Int32.or_zero, ← so]
      exact ih (t + 1) n (by omega) (by omega)
    · have so : oz (fun t => ! decide (γ t = x)) β (t + 1) = oz (fun t => ! decide (γ t = x)) β t ||| β t := by rw [oz, if_pos (by simp [c])]
      rw [if_neg c, gIx_n (by omega) (by omega), gNm_e, gNm_e, nI_1, ← so]
      exact ih (t + 1) n (by omega) (by omega)
theorem e7_setWithout {σ : gSt} {γ β : Nat → Int32} {nt : Nat} (x : Int32) (n9 : nt ≤ 9) (e7 : σ 85 7 = nI nt) (es : ∀ s, s < nt → σ 89 s = γ s ∧ σ 90 s = β s) : M_X7_setWithout x σ = some (oz (fun t => ! decide (γ t = x)) β nt, σ) := by
  unfold M_X7_setWithout
  exact l_wout n9 e7 es nt 0 gFu (by omega) (fu _ (by omega))
/-- what a line of persons chooses -/
theorem Gn.chs {nf gl : Nat} {o G : Int32 → Nat → Int32} (g0 : 0 < gl) (h : Gn nf gl o G) : Chs nf (fun m => G m (tl (o m) (gl - 1))) (fun m => o m (tl (o m) (gl - 1))) := by
  obtain ⟨h1, h2, h3⟩ := h
  have hlt : ∀ m, tl (o m) (gl - 1) < gl := fun m => by have := tl_le (o m) (gl - 1); omega
  refine ⟨fun m m' hle hu => ?_, fun m => h2 m _ (hlt m)⟩
  have e : tl (o m') (gl - 1) = tl (o m) (gl - 1) := tl_iia (G := G m) (G' := G m') (U := fun x => ∀ f, f < 24 → x = nI f → bt m' f = 0) (gl - 1) (fun t ht => ⟨h1 m t (by omega), h1 m' t (by omega), fun u => (h3 m m' t (by omega) hle u).1⟩) (fun f hf e => absurd e.symm (nIm2 (by omega))) hu
  have := h3 m m' _ (hlt m) hle hu
  show G m' (tl (o m') (gl - 1)) = G m (tl (o m) (gl - 1)) ∧ o m' (tl (o m') (gl - 1)) = o m (tl (o m) (gl - 1))
  rw [e]
  exact this
/-- all ways, with both -/
theorem Inv.ways {σ : gSt} (h : Inv σ) (day known : Int32) {p nq : Nat} (hq : σ 102 1 = nI nq) (hqb : nq ≤ 10) (hp : p < nq) : ∃ (nf nd : Nat) (d : Nat → Nat) (u : Nat → Int32), nd ≤ 8 ∧ nf ≤ 24 ∧ Dl (σ 102) nf nd d ∧ (∀ k, k < nd → d k < 24) ∧ (∀ w, ∃ m, m < 128 ∧ u w = nI m) ∧ M_X1_countDoubted σ = some (nI nd, σ) ∧
    (∃ σ1 σ2, M_X7_prepare (nI p) day known σ = some (0, σ1) ∧ M_X7_takeTurns σ1 = some (0, σ2) ∧ (∀ k, k < 85 ∨ 91 < k → σ2 k = σ k) ∧ σ2 17 0 = nI nf ∧ (∀ j, j < 24 → σ2 25 j = σ 102 (297 + j)) ∧ M_X7_setUpTo (-2) σ2 = some (oz (fun _ => true) u (2 ^ nd), σ2) ∧ (∀ k, k < nd → M_X7_setUpTo (nI (d k)) σ2 = some (oz (z0 k) u (2 ^ nd), σ2) ∧ M_X7_setWithout (nI (d k)) σ2 = some (oz (z1 k) u (2 ^ nd), σ2))) ∧
    (∀ σ', σ' 102 = σ 102 → ∃ σ'', (∀ q, q ≠ 101 → q ≠ 107 → q ≠ 108 → q ≠ 109 → σ'' q = σ' q) ∧ (∀ j, j ≠ 7 → j ≠ 9 → σ'' 101 j = σ' 101 j) ∧ (∀ k, k < nd → σ'' 108 k = nI (d k)) ∧ (∀ w, w < 2 ^ nd → σ'' 109 w = u w) ∧ M_X10_findOutcomes (nI p) day known σ' = some (nI nd, σ'')) := by
  obtain ⟨nf, c, m2, b2, c8, hc, d1, -⟩ := h.cnt
  obtain ⟨np, nq', nf', nl, no, hR, hC, hX, ⟨k0, k1, k2, k3, k4⟩, ⟨m0, m1, m2', m3, m4⟩, ⟨b0, b1, b2', b3, b4⟩⟩ := h.nums
  have : nf' = nf := (nI_eq (by omega) (by omega)).mp (m2'.symm.trans m2)
  subst this
  obtain ⟨gl, cc, o, G, g0, g10, c0, hcq, hr, hG, hoG, ⟨σ1, q1, f1, e7, e87, ho⟩, rf⟩ := h.reck day known hq hqb hp
  have hc' : c = dc (σ 102) nf' := hc
  obtain ⟨d, hd⟩ := Dl.mk (N := σ 102) (nf := nf') (by omega)
  rw [← hc'] at hd
  have hrs : ∀ m, o m (tl (o m) (gl - 1)) = -1 ∨ ∃ k, k ≤ 5 ∧ o m (tl (o m) (gl - 1)) = nI k := fun m => hr m _ (by have := tl_le (o m) (gl - 1); omega)
  have ch := (hG nf' m2 b2).chs g0
  obtain ⟨nt, ht⟩ := Trn.ex (N := σ 102) b2 (by omega) ch
  have j17 : σ1 17 0 = nI nf' := by rw [f1 17 (by omega)]; exact k2
  have j25 : ∀ j, j < 24 → σ1 25 j = σ 102 (297 + j) := fun j hj => by rw [f1 25 (by omega)]; exact hC.get0 25 297 24 (by decide) hj
  obtain ⟨σ2, ⟨t1, t2, t3, t4⟩, t5⟩ := e7_takeTurns j17 b2 j25 ch ht (fun m σ' hs h6 => by
    have hle := tl_le (o m) (gl - 1)
    have x := ho m (tl (o m) (gl - 1)) (by omega) σ' (fun k a b c _ => hs k a b c)
    exact ⟨_, e7_teller g0 g10 (h6.trans e7) (hoG m) (fun t ht => (ho m t ht σ' (fun k a b c _ => hs k a b c)).1), x.1, x.2⟩)
  have n9 := ht.2.1
  refine ⟨nf', c, d, uw (fun m => o m (tl (o m) (gl - 1))) d c, c8, b2, hd, fun k hk => by have := (hd.2.2 k hk).1; omega, fun w => ob_lt (hrs _), d1, ⟨σ1, σ2, q1, t5, fun k hk => (t1 k (by omega) (by omega) (by omega)).trans (f1 k (by omega)), by rw [t1 17 (by decide) (by decide) (by decide)]; exact j17, by rw [t1 25 (by decide) (by decide) (by decide)]; exact j25, ?_, fun k hk => ⟨?_, ?_⟩⟩, ?_⟩
  · rw [tw_all b2 ch ht hd]
    exact e7_setUpTo (-2) n9 t3 t4
  · rw [tw_so b2 ch ht hd hk]
    exact e7_setUpTo (nI (d k)) n9 t3 t4
  · rw [tw_not b2 ch ht hd hk]
    exact e7_setWithout (nI (d k)) n9 t3 t4
  intro σ' e
  refine e10_findOutcomes (σ := σ') (nf := nf') (nd := c) (d := d) (rs := fun m => o m (tl (o m) (gl - 1))) (nI p) day known (by rw [e]; exact m2) b2 (by rw [e]; exact hd) hrs (fun σ'' e' => ?_)
  obtain ⟨σ3, r1, r2, -, r4⟩ := (rf σ'' (e'.trans e)).2
  exact ⟨σ3, r1, r2, r4⟩
theorem l_co {σ : gSt} {u : Nat → Int32} {nd : Nat} (a1 a2 a3 : Int32) (h8 : nd ≤ 8) (e109 : ∀ w, w < 2 ^ nd → σ 109 w = u w) {K : Int32 → Int32 → gSt → gO} : ∀ (m i n : Nat), i + m = 2 ^ nd → m < n → L6_X10_could (nI nd) a1 a2 a3 n (nI i) (oz (fun _ => true) u i) σ K = K (nI (2 ^ nd)) (oz (fun _ => true) u (2 ^ nd)) σ := by
  have hp := p2b nd h8
  intro m
  induction m with
  | zero =>
    intro i n hi hn
    obtain ⟨n, rfl⟩ : ∃ k, n = k + 1 := ⟨n - 1, by omega⟩
    have e : i = 2 ^ nd := by omega
    subst e
    rw [L6_X10_could, p2w nd h8, if_pos (nI_le (Nat.le_refl _) (by omega))]
  | succ m ih =>
    intro i n hi hn
    obtain ⟨n, rfl⟩ : ∃ k, n = k + 1 := ⟨n - 1, by omega⟩
    rw [L6_X10_could, p2w nd h8, if_neg (nle (by omega) (by omega)), gIx_n (by omega) (by omega), gNm_e, gNm_e, nI_tn (by omega), nI_1, e109 i (by omega)]
    have := ih (i + 1) n (by omega) (by omega)
    rw [oz, if_pos rfl] at this
    exact this
theorem Scr.of2 {σ σ1 : gSt} (h : ∀ k, k < 85 ∨ 91 < k → σ1 k = σ k) : Scr σ σ1 := ⟨fun k hk => h k (by omega), by rw [h 101 (by omega)], by rw [h 101 (by omega)]⟩
theorem Scr.out {σ σ' : gSt} (f : ∀ q, q ≠ 101 → q ≠ 107 → q ≠ 108 → q ≠ 109 → σ' q = σ q) (f2 : ∀ j, j ≠ 7 → j ≠ 9 → σ' 101 j = σ 101 j) : Scr σ σ' := ⟨fun k hk => f k (by omega) (by omega) (by omega) (by omega), f2 2 (by decide) (by decide), f2 3 (by decide) (by decide)⟩
theorem t_could (a1 a2 a3 : Int32) {σ : gSt} (h : Inv σ) : Agr (M_X9_could a1 a2 a3) (M_X10_could a1 a2 a3) σ := by
  obtain ⟨np, nq, nf, nl, no, hR, hC, hX, ⟨k0, k1, k2, k3, k4⟩, ⟨m0, m1, m2, m3, m4⟩, ⟨b0, b1, b2, b3, b4⟩⟩ := h.nums
  rcases ix_or a1 (n := nq) (by omega) with ⟨p, hp, rfl⟩ | v1
  rotate_left
  · exact Agr.find h (-100001) (by simp (disch := omega) [M_X9_could, ↓gBd_s, ↓gNm_e, ↓b9_within, ↓b10_within, ↓b9_isDay, ↓b10_isDay, ↓b9_isWeek, ↓b10_isWeek, ↓b9_isSheet, ↓b10_isSheet, ↓b9_finding, ↓b10_finding, ↓b4_has, ↓b5_has, ↓b1_has, ↓b2_has, ↓b3_has, ↓b10_isParishU, ↓b10_isPersonU, ↓b10_isOrderU, ↓gIx_c0, ↓gIx_c1, ↓gIx_c2, ↓gIx_c3, ↓gIx_c4, ↓gIx_c5, ↓gIx_c6, ↓gIx_n, ↓gx_7, ↓gx_13, ↓gx_49, ↓gx_59, ↓gx_69, ↓gx_79, ↓gx_89, ↓gx_99, ↓gx_109, ↓gx_119, ↓gx_129, ↓gx_153, ↓gx_177, ↓gx_201, ↓gx_225, ↓gx_249, ↓gx_273, ↓gx_297, ↓gx_321, ↓gx_333, ↓gx_345, ↓gx_357, ↓gx_369, ↓gx_389, ↓gx_409, ↓gx_429, ↓gx_449, ↓gx_469, ↓gx_489, ↓gx_5, ↓ite_bz, e9_within, e10_within, e9_isDay, e10_isDay, e9_isWeek, e10_isWeek, e9_isSheet, e10_isSheet, e9_finding, e10_finding, e4_has, e5_has, e1_has, e2_has, e3_has, e10_isParishU, e10_isPersonU, e10_isOrderU, le_p, tn0, tn1, tn2, tn3, tn4, tn5, tn6, gUp_n, gUp_s, upd_s, upd_n, nI_add, nI_1, nI_tn, nI_p1, if_true, if_false, bz0, not_true_eq_false, not_false_eq_true, true_and, and_true, ne_eq, and_self, li_7, li_13, li_49, li_59, li_69, li_79, li_89, li_99, li_109, li_119, li_129, li_153, li_177, li_201, li_225, li_249, li_273, li_297, li_321, li_333, li_345, li_357, li_369, li_389, li_409, li_429, li_449, li_469, li_489, li_5, lm_6, lm_20, lm_60, lm_4, ↓b9_canReckon, ↓b10_canAsk, k0, k1, k2, k3, k4, m0, m1, m2, m3, m4, v1]) (by simp (disch := omega) [M_X10_could, ↓gBd_s, ↓gNm_e, ↓b9_within, ↓b10_within, ↓b9_isDay, ↓b10_isDay, ↓b9_isWeek, ↓b10_isWeek, ↓b9_isSheet, ↓b10_isSheet, ↓b9_finding, ↓b10_finding, ↓b4_has, ↓b5_has, ↓b1_has, ↓b2_has, ↓b3_has, ↓b10_isParishU, ↓b10_isPersonU, ↓b10_isOrderU, ↓gIx_c0, ↓gIx_c1, ↓gIx_c2, ↓gIx_c3, ↓gIx_c4, ↓gIx_c5, ↓gIx_c6, ↓gIx_n, ↓gx_7, ↓gx_13, ↓gx_49, ↓gx_59, ↓gx_69, ↓gx_79, ↓gx_89, ↓gx_99, ↓gx_109, ↓gx_119, ↓gx_129, ↓gx_153, ↓gx_177, ↓gx_201, ↓gx_225, ↓gx_249, ↓gx_273, ↓gx_297, ↓gx_321, ↓gx_333, ↓gx_345, ↓gx_357, ↓gx_369, ↓gx_389, ↓gx_409, ↓gx_429, ↓gx_449, ↓gx_469, ↓gx_489, ↓gx_5, ↓ite_bz, e9_within, e10_within, e9_isDay, e10_isDay, e9_isWeek, e10_isWeek, e9_isSheet, e10_isSheet, e9_finding, e10_finding, e4_has, e5_has, e1_has, e2_has, e3_has, e10_isParishU, e10_isPersonU, e10_isOrderU, le_p, tn0, tn1, tn2, tn3, tn4, tn5, tn6, gUp_n, gUp_s, upd_s, upd_n, nI_add, nI_1, nI_tn, nI_p1, if_true, if_false, bz0, not_true_eq_false, not_false_eq_true, true_and, and_true, ne_eq, and_self, li_7, li_13, li_49, li_59, li_69, li_79, li_89, li_99, li_109, li_119, li_129, li_153, li_177, li_201, li_225, li_249, li_273, li_297, li_321, li_333, li_345, li_357, li_369, li_389, li_409, li_429, li_449, li_469, li_489, li_5, lm_6, lm_20, lm_60, lm_4, ↓b9_canReckon, ↓b10_canAsk, k0, k1, k2, k3, k4, m0, m1, m2, m3, m4, v1])
  have v1 := ix_ok hp (by omega)
  by_cases w2 : 0 ≤ a2 ∧ a2 ≤ 9999
  rotate_left
  · exact Agr.find h (-100001) (by simp (disch := omega) [M_X9_could, ↓gBd_s, ↓gNm_e, ↓b9_within, ↓b10_within, ↓b9_isDay, ↓b10_isDay, ↓b9_isWeek, ↓b10_isWeek, ↓b9_isSheet, ↓b10_isSheet, ↓b9_finding, ↓b10_finding, ↓b4_has, ↓b5_has, ↓b1_has, ↓b2_has, ↓b3_has, ↓b10_isParishU, ↓b10_isPersonU, ↓b10_isOrderU, ↓gIx_c0, ↓gIx_c1, ↓gIx_c2, ↓gIx_c3, ↓gIx_c4, ↓gIx_c5, ↓gIx_c6, ↓gIx_n, ↓gx_7, ↓gx_13, ↓gx_49, ↓gx_59, ↓gx_69, ↓gx_79, ↓gx_89, ↓gx_99, ↓gx_109, ↓gx_119, ↓gx_129, ↓gx_153, ↓gx_177, ↓gx_201, ↓gx_225, ↓gx_249, ↓gx_273, ↓gx_297, ↓gx_321, ↓gx_333, ↓gx_345, ↓gx_357, ↓gx_369, ↓gx_389, ↓gx_409, ↓gx_429, ↓gx_449, ↓gx_469, ↓gx_489, ↓gx_5, ↓ite_bz, e9_within, e10_within, e9_isDay, e10_isDay, e9_isWeek, e10_isWeek, e9_isSheet, e10_isSheet, e9_finding, e10_finding, e4_has, e5_has, e1_has, e2_has, e3_has, e10_isParishU, e10_isPersonU, e10_isOrderU, le_p, tn0, tn1, tn2, tn3, tn4, tn5, tn6, gUp_n, gUp_s, upd_s, upd_n, nI_add, nI_1, nI_tn, nI_p1, if_true, if_false, bz0, not_true_eq_false, not_false_eq_true, true_and, and_true, ne_eq, and_self, li_7, li_13, li_49, li_59, li_69, li_79, li_89, li_99, li_109, li_119, li_129, li_153, li_177, li_201, li_225, li_249, li_273, li_297, li_321, li_333, li_345, li_357, li_369, li_389, li_409, li_429, li_449, li_469, li_489, li_5, lm_6, lm_20, lm_60, lm_4, ↓b9_canReckon, ↓b10_canAsk, k0, k1, k2, k3, k4, m0, m1, m2, m3, m4, v1, w2]) (by simp (disch := omega) [M_X10_could, ↓gBd_s, ↓gNm_e, ↓b9_within, ↓b10_within, ↓b9_isDay, ↓b10_isDay, ↓b9_isWeek, ↓b10_isWeek, ↓b9_isSheet, ↓b10_isSheet, ↓b9_finding, ↓b10_finding, ↓b4_has, ↓b5_has, ↓b1_has, ↓b2_has, ↓b3_has, ↓b10_isParishU, ↓b10_isPersonU, ↓b10_isOrderU, ↓gIx_c0, ↓gIx_c1, ↓gIx_c2, ↓gIx_c3, ↓gIx_c4, ↓gIx_c5, ↓gIx_c6, ↓gIx_n, ↓gx_7, ↓gx_13, ↓gx_49, ↓gx_59, ↓gx_69, ↓gx_79, ↓gx_89, ↓gx_99, ↓gx_109, ↓gx_119, ↓gx_129, ↓gx_153, ↓gx_177, ↓gx_201, ↓gx_225, ↓gx_249, ↓gx_273, ↓gx_297, ↓gx_321, ↓gx_333, ↓gx_345, ↓gx_357, ↓gx_369, ↓gx_389, ↓gx_409, ↓gx_429, ↓gx_449, ↓gx_469, ↓gx_489, ↓gx_5, ↓ite_bz, e9_within, e10_within, e9_isDay, e10_isDay, e9_isWeek, e10_isWeek, e9_isSheet, e10_isSheet, e9_finding, e10_finding, e4_has, e5_has, e1_has, e2_has, e3_has, e10_isParishU, e10_isPersonU, e10_isOrderU, le_p, tn0, tn1, tn2, tn3, tn4, tn5, tn6, gUp_n, gUp_s, upd_s, upd_n, nI_add, nI_1, nI_tn, nI_p1, if_true, if_false, bz0, not_true_eq_false, not_false_eq_true, true_and, and_true, ne_eq, and_self, li_7, li_13, li_49, li_59, li_69, li_79, li_89, li_99, li_109, li_119, li_129, li_153, li_177, li_201, li_225, li_249, li_273, li_297, li_321, li_333, li_345, li_357, li_369, li_389, li_409, li_429, li_449, li_469, li_489, li_5, lm_6, lm_20, lm_60, lm_4, ↓b9_canReckon, ↓b10_canAsk, k0, k1, k2, k3, k4, m0, m1, m2, m3, m4, v1, w2])
  by_cases w3 : 0 ≤ a3 ∧ a3 ≤ 9999
  rotate_left
  · exact Agr.find h (-100001) (by simp (disch := omega) [M_X9_could, ↓gBd_s, ↓gNm_e, ↓b9_within, ↓b10_within, ↓b9_isDay, ↓b10_isDay, ↓b9_isWeek, ↓b10_isWeek, ↓b9_isSheet, ↓b10_isSheet, ↓b9_finding, ↓b10_finding, ↓b4_has, ↓b5_has, ↓b1_has, ↓b2_has, ↓b3_has, ↓b10_isParishU, ↓b10_isPersonU, ↓b10_isOrderU, ↓gIx_c0, ↓gIx_c1, ↓gIx_c2, ↓gIx_c3, ↓gIx_c4, ↓gIx_c5, ↓gIx_c6, ↓gIx_n, ↓gx_7, ↓gx_13, ↓gx_49, ↓gx_59, ↓gx_69, ↓gx_79, ↓gx_89, ↓gx_99, ↓gx_109, ↓gx_119, ↓gx_129, ↓gx_153, ↓gx_177, ↓gx_201, ↓gx_225, ↓gx_249, ↓gx_273, ↓gx_297, ↓gx_321, ↓gx_333, ↓gx_345, ↓gx_357, ↓gx_369, ↓gx_389, ↓gx_409, ↓gx_429, ↓gx_449, ↓gx_469, ↓gx_489, ↓gx_5, ↓ite_bz, e9_within, e10_within, e9_isDay, e10_isDay, e9_isWeek, e10_isWeek, e9_isSheet, e10_isSheet, e9_finding, e10_finding, e4_has, e5_has, e1_has, e2_has, e3_has, e10_isParishU, e10_isPersonU, e10_isOrderU, le_p, tn0, tn1, tn2, tn3, tn4, tn5, tn6, gUp_n, gUp_s, upd_s, upd_n, nI_add, nI_1, nI_tn, nI_p1, if_true, if_false, bz0, not_true_eq_false, not_false_eq_true, true_and, and_true, ne_eq, and_self, li_7, li_13, li_49, li_59, li_69, li_79, li_89, li_99, li_109, li_119, li_129, li_153, li_177, li_201, li_225, li_249, li_273, li_297, li_321, li_333, li_345, li_357, li_369, li_389, li_409, li_429, li_449, li_469, li_489, li_5, lm_6, lm_20, lm_60, lm_4, ↓b9_canReckon, ↓b10_canAsk, k0, k1, k2, k3, k4, m0, m1, m2, m3, m4, v1, w2, w3]) (by simp (disch := omega) [M_X10_could, ↓gBd_s, ↓gNm_e, ↓b9_within, ↓b10_within, ↓b9_isDay, ↓b10_isDay, ↓b9_isWeek, ↓b10_isWeek, ↓b9_isSheet, ↓b10_isSheet, ↓b9_finding, ↓b10_finding, ↓b4_has, ↓b5_has, ↓b1_has, ↓b2_has, ↓b3_has, ↓b10_isParishU, ↓b10_isPersonU, ↓b10_isOrderU, ↓gIx_c0, ↓gIx_c1, ↓gIx_c2, ↓gIx_c3, ↓gIx_c4, ↓gIx_c5, ↓gIx_c6, ↓gIx_n, ↓gx_7, ↓gx_13, ↓gx_49, ↓gx_59, ↓gx_69, ↓gx_79, ↓gx_89, ↓gx_99, ↓gx_109, ↓gx_119, ↓gx_129, ↓gx_153, ↓gx_177, ↓gx_201, ↓gx_225, ↓gx_249, ↓gx_273, ↓gx_297, ↓gx_321, ↓gx_333, ↓gx_345, ↓gx_357, ↓gx_369, ↓gx_389, ↓gx_409, ↓gx_429, ↓gx_449, ↓gx_469, ↓gx_489, ↓gx_5, ↓ite_bz, e9_within, e10_within, e9_isDay, e10_isDay, e9_isWeek, e10_isWeek, e9_isSheet, e10_isSheet, e9_finding, e10_finding, e4_has, e5_has, e1_has, e2_has, e3_has, e10_isParishU, e10_isPersonU, e10_isOrderU, le_p, tn0, tn1, tn2, tn3, tn4, tn5, tn6, gUp_n, gUp_s, upd_s, upd_n, nI_add, nI_1, nI_tn, nI_p1, if_true, if_false, bz0, not_true_eq_false, not_false_eq_true, true_and, and_true, ne_eq, and_self, li_7, li_13, li_49, li_59, li_69, li_79, li_89, li_99, li_109, li_119, li_129, li_153, li_177, li_201, li_225, li_249, li_273, li_297, li_321, li_333, li_345, li_357, li_369, li_389, li_409, li_429, li_449, li_469, li_489, li_5, lm_6, lm_20, lm_60, lm_4, ↓b9_canReckon, ↓b10_canAsk, k0, k1, k2, k3, k4, m0, m1, m2, m3, m4, v1, w2, w3])
  have ca : (0 ≤ nI p ∧ nI p < nI nq) ∧ (0 ≤ a2 ∧ a2 ≤ 9999) ∧ (0 ≤ a3 ∧ a3 ≤ 9999) := ⟨⟨v1.1, v1.2.1⟩, w2, w3⟩
  have cb : (0 ≤ nI p ∧ nI p ≤ nI nq - 1) ∧ (0 ≤ a2 ∧ a2 ≤ 9999) ∧ (0 ≤ a3 ∧ a3 ≤ 9999) := ⟨⟨v1.1, v1.2.2.2.2.2.1⟩, w2, w3⟩
  obtain ⟨nf9, nd, d, u, n8, nf24, hdl, hd24, hu, hcd, ⟨σ1, σ2, q1, q2, f2, j17, j25, s1, s2⟩, rf⟩ := h.ways a2 a3 m1 b1 hp
  have e102 : σ2 102 = σ 102 := f2 102 (by omega)
  obtain ⟨σ3, g1, g2, g3, g4, g5⟩ := rf σ2 e102
  have hpw := p2b nd n8
  refine ⟨oz (fun _ => true) u (2 ^ nd), σ2, σ3, ?_, ?_, h.scr ((Scr.of2 f2).trans (Scr.out g1 g2))⟩
  · unfold M_X9_could M_X7_couldBe
    rw [b9_canReckon, k1, if_pos ca, if_neg (show ¬ (1 : Int32) = 0 by decide), q1, gBd_s, q2, gBd_s, s1, gBd_s, gBd_s]
  · unfold M_X10_could
    have L := l_co (σ := σ3) (u := u) (nI p) a2 a3 n8 g4 (K := fun _ z12 σ13 => some (z12, σ13)) (2 ^ nd) 0 gFu (by omega) (fu _ (by omega))
    rw [b10_canAsk, show σ2 102 1 = nI nq by rw [e102]; exact m1, if_pos cb, if_neg (show ¬ (1 : Int32) = 0 by decide), g5, gBd_s]
    exact L
