/-- how many of the first i are doubted -/
def dc (N : Nat → Int32) : Nat → Nat := cnt1 (fun j => N (297 + j))
theorem dc_yes {N : Nat → Int32} {i : Nat} (h : N (297 + i) = 1) : dc N (i + 1) = dc N i + 1 := by
  unfold dc cnt1
  rw [fb_ct_succ, if_pos (by simp [h])]
theorem dc_no {N : Nat → Int32} {i : Nat} (h : ¬ N (297 + i) = 1) : dc N (i + 1) = dc N i := by
  unfold dc cnt1
  rw [fb_ct_succ, if_neg (by simp [h]), Nat.add_zero]
theorem dc_mono {N : Nat → Int32} {i j : Nat} (h : i ≤ j) : dc N i ≤ dc N j := fb_ct_mono _ h
/-- the doubted facts, in their order -/
def Dl (N : Nat → Int32) (nf nd : Nat) (d : Nat → Nat) : Prop := nd = dc N nf ∧ nd ≤ 8 ∧ (∀ k, k < nd → d k < nf ∧ N (297 + d k) = 1 ∧ dc N (d k) = k)
theorem Dl.mk {N : Nat → Int32} {nf : Nat} (h : dc N nf ≤ 8) : ∃ d, Dl N nf (dc N nf) d := by
  have : ∀ k, ∃ i, k < dc N nf → i < nf ∧ N (297 + i) = 1 ∧ dc N i = k := by
    intro k
    by_cases c : k < dc N nf
    · obtain ⟨i, h1, h2, h3⟩ := fb_ct_kth c
      exact ⟨i, fun _ => ⟨h1, of_decide_eq_true h2, h3⟩⟩
    · exact ⟨0, fun y => absurd y c⟩
  exact ⟨fun k => Classical.choose (this k), rfl, h, fun k hk => Classical.choose_spec (this k) hk⟩
theorem Dl.at {N : Nat → Int32} {nf nd : Nat} {d : Nat → Nat} (h : Dl N nf nd d) {i : Nat} (hi : i < nf) (y : N (297 + i) = 1) : dc N i < nd ∧ d (dc N i) = i := by
  have h1 : dc N (i + 1) ≤ dc N nf := dc_mono (by omega)
  rw [dc_yes y, ← h.1] at h1
  obtain ⟨_, q2, q3⟩ := h.2.2 (dc N i) (by omega)
  exact ⟨by omega, fb_ct_kth_one (p := fun k => decide (N (297 + k) = 1)) (by simp [q2]) (by simp [y]) q3⟩
/-- what the walk through the facts leaves -/
def Fdb (σ σ' : gSt) (d : Nat → Nat) (n : Nat) : Prop := (∀ k, k ≠ 85 → k ≠ 89 → σ' k = σ k) ∧ (∀ j, j ≠ 8 → σ' 85 j = σ 85 j) ∧ σ' 85 8 = nI n ∧ (∀ k, k < n → σ' 89 k = nI (d k))
theorem l_fd {σ : gSt} {N : Nat → Int32} {nf nd : Nat} {d : Nat → Nat} (h17 : σ 17 0 = nI nf) (hb : nf ≤ 24) (h25 : ∀ j, j < 24 → σ 25 j = N (297 + j)) (hd : Dl N nf nd d) :
    ∀ (m i n : Nat) (σ' : gSt), i + m = nf → m < n → Fdb σ σ' d (dc N i) → ∃ σ'', Fdb σ σ'' d nd ∧ L6_X7_findDoubted n (nI i) σ' (fun _ s => some (0, s)) = some (0, σ'') := by
  intro m
  induction m with
  | zero =>
    intro i n σ' hi hn hP
    obtain ⟨n, rfl⟩ : ∃ k, n = k + 1 := ⟨n - 1, by omega⟩
    have e : i = nf := by omega
    subst e
    refine ⟨σ', by rw [hd.1]; exact hP, ?_⟩
    rw [L6_X7_findDoubted, hP.1 17 (by decide) (by decide), h17, if_pos (nI_le (Nat.le_refl _) (by omega))]
  | succ m ih =>
    intro i n σ' hi hn hP
    obtain ⟨n, rfl⟩ : ∃ k, n = k + 1 := ⟨n - 1, by omega⟩
    have hle : dc N i ≤ nd := by rw [hd.1]; exact dc_mono (by omega)
    have h8 := hd.2.1
    rw [L6_X7_findDoubted, hP.1 17 (by decide) (by decide), h17, if_neg (nle (by omega) (by omega)), hP.2.2.1]
    by_cases c8 : dc N i = 8
    · refine ⟨σ', by rw [show nd = dc N i by omega]; exact hP, ?_⟩
      rw [if_pos (show (8 : Int32) ≤ nI (dc N i) from nI_le (a := 8) (by omega) (by omega))]
    · rw [if_neg (show ¬ (8 : Int32) ≤ nI (dc N i) from nle (b := 8) (by omega) (by omega)), e1_isDoubted σ' (j := i) (by omega), gBd_s, hP.1 25 (by decide) (by decide), h25 i (by omega)]
      by_cases y : N (297 + i) = 1
      · rw [if_pos y, if_neg (show ¬ (1 : Int32) = 0 by decide), hP.2.2.1, gIx_n (by omega) (by omega), gNm_e, gNm_e, gNm_e, nI_tn (by omega), nI_1, gUp_n (by decide), hP.2.2.1, nI_1]
        refine ih (i + 1) n _ (by omega) (by omega) ⟨fun k a b => ?_, fun j hj => ?_, ?_, fun k hk => ?_⟩
        · rw [gUp_n a, gUp_n b]; exact hP.1 k a b
        · rw [gUp_s, upd_n hj, gUp_n (by decide)]; exact hP.2.1 j hj
        · rw [gUp_s, upd_s, dc_yes y]
        · rw [dc_yes y] at hk
          rw [gUp_n (by decide), gUp_s]
          by_cases e : k = dc N i
          · rw [e, upd_s, (hd.at (by omega) y).2]
          · rw [upd_n e]; exact hP.2.2.2 k (by omega)
      · rw [if_neg y, if_pos (show (0 : Int32) = 0 from rfl), gNm_e, nI_1]
        exact ih (i + 1) n _ (by omega) (by omega) (by rw [dc_no y]; exact hP)
/-- one bit of a way -/
def bt (w : Int32) (k : Nat) : Int32 := (w >>> (nI k &&& 31)) &&& 1
/-- the facts that a way denies -/
def mk (d : Nat → Nat) (nd : Nat) (w : Int32) : Int32 := fo (fun k m => m ||| (bt w k <<< (nI (d k) &&& 31))) nd 0 0
theorem l_den {σ : gSt} {nd : Nat} {d : Nat → Nat} (h8 : nd ≤ 8) (e8 : σ 85 8 = nI nd) (e89 : ∀ k, k < nd → σ 89 k = nI (d k)) (w : Int32) : ∀ (m i n : Nat) (a : Int32), i + m = nd → m < n → L1_X7_deniedIn w n (nI i) a σ (fun _ z s => some (z, s)) = some (fo (fun k m => m ||| (bt w k <<< (nI (d k) &&& 31))) m i a, σ) := by
  intro m
  induction m with
  | zero =>
    intro i n a hi hn
    obtain ⟨n, rfl⟩ : ∃ k, n = k + 1 := ⟨n - 1, by omega⟩
    have e : i = nd := by omega
    subst e
    rw [L1_X7_deniedIn, e8, if_pos (nI_le (Nat.le_refl _) (by omega)), fo]
  | succ m ih =>
    intro i n a hi hn
    obtain ⟨n, rfl⟩ : ∃ k, n = k + 1 := ⟨n - 1, by omega⟩
    rw [L1_X7_deniedIn, e8, if_neg (nle (by omega) (by omega)), gIx_n (by omega) (by omega), gNm_e, gNm_e, nI_tn (by omega), nI_1, e89 i (by omega), fo]
    exact ih (i + 1) n _ (by omega) (by omega)
theorem e7_denied {σ : gSt} {nd : Nat} {d : Nat → Nat} (h8 : nd ≤ 8) (e8 : σ 85 8 = nI nd) (e89 : ∀ k, k < nd → σ 89 k = nI (d k)) (w : Int32) : M_X7_deniedIn w σ = some (mk d nd w, σ) := by
  unfold M_X7_deniedIn
  exact l_den h8 e8 e89 w nd 0 gFu 0 (by omega) (fu _ (by omega))
/-- outcomes, gathered -/
def oz (b : Nat → Bool) (u : Nat → Int32) : Nat → Int32
  | 0 => 0
  | n + 1 => if b n = true then oz b u n ||| u n else oz b u n
def z0 (k : Nat) : Nat → Bool := fun w => decide (bt (nI w) k = 0)
def z1 (k : Nat) : Nat → Bool := fun w => ! decide (bt (nI w) k = 0)
theorem l_L12 {nd : Nat} (h8 : nd ≤ 8) (a x r w : Int32) : ∀ (m k n : Nat) (σ' : gSt), k + m = nd → m < n → σ' 85 8 = nI nd → ∃ σ'', (∀ q, q ≠ 90 → q ≠ 91 → σ'' q = σ' q) ∧ (∀ j, σ'' 90 j = if k ≤ j ∧ j < nd ∧ bt w j = 0 then σ' 90 j ||| x else σ' 90 j) ∧ (∀ j, σ'' 91 j = if k ≤ j ∧ j < nd ∧ ¬ bt w j = 0 then σ' 91 j ||| x else σ' 91 j) ∧ ∀ K, L12_X7_tryAllWays a x r w n (nI k) σ' K = K (nI nd) σ'' := by
  intro m
  induction m with
  | zero =>
    intro i n σ' hi hn e8
    obtain ⟨n, rfl⟩ : ∃ k, n = k + 1 := ⟨n - 1, by omega⟩
    have e : i = nd := by omega
    subst e
    refine ⟨σ', fun _ _ _ => rfl, fun j => (if_neg (by omega)).symm, fun j => (if_neg (by omega)).symm, fun K => ?_⟩
    rw [L12_X7_tryAllWays, e8, if_pos (nI_le (Nat.le_refl _) (by omega))]
  | succ m ih =>
    intro i n σ' hi hn e8
    obtain ⟨n, rfl⟩ : ∃ k, n = k + 1 := ⟨n - 1, by omega⟩
    by_cases y : bt w i = 0
    · obtain ⟨σ'', p1, p2, p3, p4⟩ := ih (i + 1) n (gUp σ' 90 i (σ' 90 i ||| x)) (by omega) (by omega) (by rw [gUp_n (by decide)]; exact e8)
      refine ⟨σ'', fun q a b => by rw [p1 q a b, gUp_n a], fun j => ?_, fun j => ?_, fun K => ?_⟩
      · rw [p2 j, gUp_s]
        by_cases e : j = i
        · subst e
          rw [upd_s, if_neg (by omega), if_pos ⟨by omega, by omega, y⟩]
        · rw [upd_n e]
          by_cases z : i + 1 ≤ j ∧ j < nd ∧ bt w j = 0
          · rw [if_pos z, if_pos ⟨by omega, z.2⟩]
          · rw [if_neg z, if_neg (fun z' => z ⟨by omega, z'.2⟩)]
      · rw [p3 j, gUp_n (by decide)]
        by_cases z : i + 1 ≤ j ∧ j < nd ∧ ¬ bt w j = 0
        · rw [if_pos z, if_pos ⟨by omega, z.2⟩]
        · rw [if_neg z, if_neg (fun z' => z ⟨by
            have : j ≠ i := fun e => z'.2.2 (by rw [e]; exact y)
            omega, z'.2⟩)]
      · have y' : (w >>> (nI i &&& 31)) &&& 1 = 0 := y
        rw [L12_X7_tryAllWays, e8, if_neg (nle (by omega) (by omega)), if_pos y', gIx_n (by omega) (by omega), gIx_n (by omega) (by omega), gNm_e, gNm_e, nI_tn (by omega), nI_1]
        exact p4 K
    · obtain ⟨σ'', p1, p2, p3, p4⟩ := ih (i + 1) n (gUp σ' 91 i (σ' 91 i ||| x)) (by omega) (by omega) (by rw [gUp_n (by decide)]; exact e8)
      refine ⟨σ'', fun q a b => by rw [p1 q a b, gUp_n b], fun j => ?_, fun j => ?_, fun K => ?_⟩
      · rw [p2 j, gUp_n (by decide)]
        by_cases z : i + 1 ≤ j ∧ j < nd ∧ bt w j = 0
        · rw [if_pos z, if_pos ⟨by omega, z.2⟩]
        · rw [if_neg z, if_neg (fun z' => z ⟨by
            have : j ≠ i := fun e => y (by rw [← e]; exact z'.2.2)
            omega, z'.2⟩)]
      · rw [p3 j, gUp_s]
        by_cases e : j = i
        · subst e
          rw [upd_s, if_neg (by omega), if_pos ⟨by omega, by omega, y⟩]
        · rw [upd_n e]
          by_cases z : i + 1 ≤ j ∧ j < nd ∧ ¬ bt w j = 0
          · rw [if_pos z, if_pos ⟨by omega, z.2⟩]
          · rw [if_neg z, if_neg (fun z' => z ⟨by omega, z'.2⟩)]
      · have y' : ¬ (w >>> (nI i &&& 31)) &&& 1 = 0 := y
        rw [L12_X7_tryAllWays, e8, if_neg (nle (by omega) (by omega)), if_neg y', gIx_n (by omega) (by omega), gIx_n (by omega) (by omega), gNm_e, gNm_e, nI_tn (by omega), nI_1]
        exact p4 K
theorem l_L28 {nd : Nat} (h8 : nd ≤ 8) (a x r w : Int32) : ∀ (m k n : Nat) (σ' : gSt), k + m = nd → m < n → σ' 85 8 = nI nd → ∃ σ'', (∀ q, q ≠ 90 → q ≠ 91 → σ'' q = σ' q) ∧ (∀ j, σ'' 90 j = if k ≤ j ∧ j < nd ∧ bt w j = 0 then σ' 90 j ||| x else σ' 90 j) ∧ (∀ j, σ'' 91 j = if k ≤ j ∧ j < nd ∧ ¬ bt w j = 0 then σ' 91 j ||| x else σ' 91 j) ∧ ∀ K, L28_X7_tryAllWays a x r w n (nI k) σ' K = K (nI nd) σ'' := by
  intro m
  induction m with
  | zero =>
    intro i n σ' hi hn e8
    obtain ⟨n, rfl⟩ : ∃ k, n = k + 1 := ⟨n - 1, by omega⟩
    have e : i = nd := by omega
    subst e
    refine ⟨σ', fun _ _ _ => rfl, fun j => (if_neg (by omega)).symm, fun j => (if_neg (by omega)).symm, fun K => ?_⟩
    rw [L28_X7_tryAllWays, e8, if_pos (nI_le (Nat.le_refl _) (by omega))]
  | succ m ih =>
    intro i n σ' hi hn e8
    obtain ⟨n, rfl⟩ : ∃ k, n = k + 1 := ⟨n - 1, by omega⟩
    by_cases y : bt w i = 0
    · obtain ⟨σ'', p1, p2, p3, p4⟩ := ih (i + 1) n (gUp σ' 90 i (σ' 90 i ||| x)) (by omega) (by omega) (by rw [gUp_n (by decide)]; exact e8)
      refine ⟨σ'', fun q a b => by rw [p1 q a b, gUp_n a], fun j => ?_, fun j => ?_, fun K => ?_⟩
      · rw [p2 j, gUp_s]
        by_cases e : j = i
        · subst e
          rw [upd_s, if_neg (by omega), if_pos ⟨by omega, by omega, y⟩]
        · rw [upd_n e]
          by_cases z : i + 1 ≤ j ∧ j < nd ∧ bt w j = 0
          · rw [if_pos z, if_pos ⟨by omega, z.2⟩]
          · rw [if_neg z, if_neg (fun z' => z ⟨by omega, z'.2⟩)]
      · rw [p3 j, gUp_n (by decide)]
        by_cases z : i + 1 ≤ j ∧ j < nd ∧ ¬ bt w j = 0
        · rw [if_pos z, if_pos ⟨by omega, z.2⟩]
        · rw [if_neg z, if_neg (fun z' => z ⟨by
            have : j ≠ i := fun e => z'.2.2 (by rw [e]; exact y)
            omega, z'.2⟩)]
      · have y' : (w >>> (nI i &&& 31)) &&& 1 = 0 := y
        rw [L28_X7_tryAllWays, e8, if_neg (nle (by omega) (by omega)), if_pos y', gIx_n (by omega) (by omega), gIx_n (by omega) (by omega), gNm_e, gNm_e, nI_tn (by omega), nI_1]
        exact p4 K
    · obtain ⟨σ'', p1, p2, p3, p4⟩ := ih (i + 1) n (gUp σ' 91 i (σ' 91 i ||| x)) (by omega) (by omega) (by rw [gUp_n (by decide)]; exact e8)
      refine ⟨σ'', fun q a b => by rw [p1 q a b, gUp_n b], fun j => ?_, fun j => ?_, fun K => ?_⟩
      · rw [p2 j, gUp_n (by decide)]
        by_cases z : i + 1 ≤ j ∧ j < nd ∧ bt w j = 0
        · rw [if_pos z, if_pos ⟨by omega, z.2⟩]
        · rw [if_neg z, if_neg (fun z' => z ⟨by
            have : j ≠ i := fun e => y (by rw [← e]; exact z'.2.2)
            omega, z'.2⟩)]
      · rw [p3 j, gUp_s]
        by_cases e : j = i
        · subst e
          rw [upd_s, if_neg (by omega), if_pos ⟨by omega, by omega, y⟩]
        · rw [upd_n e]
          by_cases z : i + 1 ≤ j ∧ j < nd ∧ ¬ bt w j = 0
          · rw [if_pos z, if_pos ⟨by omega, z.2⟩]
          · rw [if_neg z, if_neg (fun z' => z ⟨by omega, z'.2⟩)]
      · have y' : ¬ (w >>> (nI i &&& 31)) &&& 1 = 0 := y
        rw [L28_X7_tryAllWays, e8, if_neg (nle (by omega) (by omega)), if_neg y', gIx_n (by omega) (by omega), gIx_n (by omega) (by omega), gNm_e, gNm_e, nI_tn (by omega), nI_1]
        exact p4 K
theorem p2w : ∀ n, n ≤ 8 → (1 : Int32) <<< (nI n &&& 31) = nI (2 ^ n) := by decide +kernel
theorem p2b : ∀ n, n ≤ 8 → 0 < 2 ^ n ∧ 2 ^ n ≤ 256 := by decide +kernel
/-- an outcome as a bit -/
def ob (r : Int32) : Int32 := if r = -1 then 64 else 1 <<< (r &&& 31)
/-- what the ways have left -/
def Wy (σ σ' : gSt) (u : Nat → Int32) (nd W : Nat) : Prop := (∀ q, q ≠ 90 → q ≠ 91 → σ' q = σ q) ∧ (∀ k, k < nd → σ' 90 k = oz (z0 k) u W ∧ σ' 91 k = oz (z1 k) u W)
theorem Wy.step {σ σ' σ'' : gSt} {u : Nat → Int32} {nd W : Nat} (h : Wy σ σ' u nd W) (p1 : ∀ q, q ≠ 90 → q ≠ 91 → σ'' q = σ' q) (p2 : ∀ j, σ'' 90 j = if 0 ≤ j ∧ j < nd ∧ bt (nI W) j = 0 then σ' 90 j ||| u W else σ' 90 j) (p3 : ∀ j, σ'' 91 j = if 0 ≤ j ∧ j < nd ∧ ¬ bt (nI W) j = 0 then σ' 91 j ||| u W else σ' 91 j) : Wy σ σ'' u nd (W + 1) := by
  refine ⟨fun q a b => (p1 q a b).trans (h.1 q a b), fun k hk => ⟨?_, ?_⟩⟩
  · rw [p2 k, (h.2 k hk).1, oz]
    by_cases y : bt (nI W) k = 0
    · rw [if_pos ⟨by omega, hk, y⟩, if_pos (show z0 k W = true from decide_eq_true y)]
    · rw [if_neg (fun q => y q.2.2), if_neg (show ¬ z0 k W = true from fun q => y (of_decide_eq_true q))]
  · rw [p3 k, (h.2 k hk).2, oz]
    by_cases y : bt (nI W) k = 0
    · rw [if_neg (fun q => q.2.2 y), if_neg (show ¬ z1 k W = true by unfold z1; simp [y])]
    · rw [if_pos ⟨by omega, hk, y⟩, if_pos (show z1 k W = true by unfold z1; simp [y])]
theorem l_ways {σ : gSt} {nd : Nat} {d : Nat → Nat} {rs : Int32 → Int32} (h8 : nd ≤ 8) (e8 : σ 85 8 = nI nd) (e89 : ∀ k, k < nd → σ 89 k = nI (d k)) (hS : ∀ (m : Int32) (σ' : gSt), (∀ q, q ≠ 90 → q ≠ 91 → σ' q = σ q) → M_X7_settledParish m σ' = some (rs m, σ')) :
    ∀ (m i n : Nat) (σ' : gSt), i + m = 2 ^ nd → m < n → Wy σ σ' (fun w => ob (rs (mk d nd (nI w)))) nd i → ∃ σ'', Wy σ σ'' (fun w => ob (rs (mk d nd (nI w)))) nd (2 ^ nd) ∧ L3_X7_tryAllWays n (nI i) (oz (fun _ => true) (fun w => ob (rs (mk d nd (nI w)))) i) σ' (fun _ z s => some (z, s)) = some (oz (fun _ => true) (fun w => ob (rs (mk d nd (nI w)))) (2 ^ nd), σ'') := by
  have hp := p2b nd h8
  intro m
  induction m with
  | zero =>
    intro i n σ' hi hn hP
    obtain ⟨n, rfl⟩ : ∃ k, n = k + 1 := ⟨n - 1, by omega⟩
    have e : i = 2 ^ nd := by omega
    subst e
    refine ⟨σ', hP, ?_⟩
    rw [L3_X7_tryAllWays, hP.1 85 (by decide) (by decide), e8, p2w nd h8, if_pos (nI_le (Nat.le_refl _) (by omega))]
  | succ m ih =>
    intro i n σ' hi hn hP
    obtain ⟨n, rfl⟩ : ∃ k, n = k + 1 := ⟨n - 1, by omega⟩
    have e8' : σ' 85 8 = nI nd := by rw [hP.1 85 (by decide) (by decide)]; exact e8
    rw [L3_X7_tryAllWays, e8', p2w nd h8, if_neg (nle (by omega) (by omega)), e7_denied h8 e8' (fun k hk => by rw [hP.1 89 (by decide) (by decide)]; exact e89 k hk) (nI i), gBd_s, hS (mk d nd (nI i)) σ' hP.1, gBd_s]
    have so : oz (fun _ => true) (fun w => ob (rs (mk d nd (nI w)))) (i + 1) = oz (fun _ => true) (fun w => ob (rs (mk d nd (nI w)))) i ||| ob (rs (mk d nd (nI i))) := by
      rw [oz, if_pos rfl]
    by_cases y : rs (mk d nd (nI i)) = -1
    · have eo : ob (rs (mk d nd (nI i))) = 64 := if_pos y
      rw [if_pos y, gNm_e, gNm_e, show (1 : Int32) <<< (6 &&& 31) = 64 by decide]
      obtain ⟨σ'', p1, p2, p3, p4⟩ := l_L28 h8 (oz (fun _ => true) (fun w => ob (rs (mk d nd (nI w)))) i ||| 64) 64 (rs (mk d nd (nI i))) (nI i) nd 0 gFu σ' (by omega) (fu _ (by omega)) e8'
      rw [nI_0] at p4
      rw [p4, gNm_e, nI_1, ← eo, ← so]
      exact ih (i + 1) n σ'' (by omega) (by omega) (hP.step p1 (by rw [eo]; exact p2) (by rw [eo]; exact p3))
    · have eo : ob (rs (mk d nd (nI i))) = 1 <<< (rs (mk d nd (nI i)) &&& 31) := if_neg y
      rw [if_neg y, gNm_e, gNm_e, ← eo]
      obtain ⟨σ'', p1, p2, p3, p4⟩ := l_L12 h8 (oz (fun _ => true) (fun w => ob (rs (mk d nd (nI w)))) i ||| ob (rs (mk d nd (nI i)))) (ob (rs (mk d nd (nI i)))) (rs (mk d nd (nI i))) (nI i) nd 0 gFu σ' (by omega) (fu _ (by omega)) e8'
      rw [nI_0] at p4
      rw [p4, gNm_e, nI_1, ← so]
      exact ih (i + 1) n σ'' (by omega) (by omega) (hP.step p1 p2 p3)
