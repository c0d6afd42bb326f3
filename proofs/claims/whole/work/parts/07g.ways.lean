/-- how many of the first i are doubted -/
def dc (N : Nat → Int32) : Nat → Nat := cnt1 (fun j => N (297 + j))
theorem dc_yes {N : Nat → Int32} {i : Nat} (h : N (297 + i) = 1) : dc N (i + 1) = dc N i + 1 := by
  unfold dc cnt1
  rw [fb_ct_succ, if_pos (by simp [h])]
theorem dc_no {N : Nat → Int32} {i : Nat} (h : ¬ N (297 + i) = 1) : dc N (i + 1) = dc N i := by
  unfold dc cnt1
  rw [fb_ct_succ, if_neg (by simp [h]), Nat.add_zero]
theorem dc_mono {N : Nat → Int32} {i j : Nat} (h : i ≤ j) : dc N i ≤ dc N j := fb_ct_mono _ h
/-- the doubted facts, in their order -/
def Dl (N : Nat → Int32) (nf nd : Nat) (d : Nat → Nat) : Prop := nd = dc N nf ∧ nd ≤ 8 ∧ (∀ k, k < nd → d k < nf ∧ N (297 + d k) = 1 ∧ dc N (d k) = k)
theorem Dl.mk {N : Nat → Int32} {nf : Nat} (h : dc N nf ≤ 8) : ∃ d, Dl N nf (dc N nf) d := by
  have : ∀ k, ∃ i, k < dc N nf → i < nf ∧ N (297 + i) = 1 ∧ dc N i = k := by
    intro k
    by_cases c : k < dc N nf
    · obtain ⟨i, h1, h2, h3⟩ := fb_ct_kth c
      exact ⟨i, fun _ => ⟨h1, of_decide_eq_true h2, h3⟩⟩
    · exact ⟨0, fun y => absurd y c⟩
  exact ⟨fun k => Classical.choose (this k), rfl, h, fun k hk => Classical.choose_spec (this k) hk⟩
theorem Dl.at {N : Nat → Int32} {nf nd : Nat} {d : Nat → Nat} (h : Dl N nf nd d) {i : Nat} (hi : i < nf) (y : N (297 + i) = 1) : dc N i < nd ∧ d (dc N i) = i := by
  have h1 : dc N (i + 1) ≤ dc N nf := dc_mono (by omega)
  rw [dc_yes y, ← h.1] at h1
  obtain ⟨_, q2, q3⟩ := h.2.2 (dc N i) (by omega)
  exact ⟨by omega, fb_ct_kth_one (p := fun k => decide (N (297 + k) = 1)) (by simp [q2]) (by simp [y]) q3⟩
/-! ===== bits of a mask (the first rows began as the kit's BITS, given for pasting) ===== -/
def tb (x : Int32) (i : Nat) : Bool := x.toBitVec.getLsbD i
theorem tb_or (x y : Int32) (i : Nat) : tb (x ||| y) i = (tb x i || tb y i) := by unfold tb; rw [Int32.toBitVec_or, BitVec.getLsbD_or]
theorem tb_and (x y : Int32) (i : Nat) : tb (x &&& y) i = (tb x i && tb y i) := by unfold tb; rw [Int32.toBitVec_and, BitVec.getLsbD_and]
theorem tb_0 (i : Nat) : tb 0 i = false := BitVec.getLsbD_zero
theorem tb_1 : ∀ i, i < 32 → tb 1 i = decide (i = 0) := by decide +kernel
theorem tb_s : ∀ n, n < 32 → ((nI n &&& 31).toBitVec.smod 32).toNat = n := by decide +kernel
theorem tb_shl (n : Nat) (hn : n < 32) (x : Int32) {i : Nat} (hi : i < 32) : tb (x <<< (nI n &&& 31)) i = (decide (n ≤ i) && tb x (i - n)) := by
  unfold tb
  rw [Int32.toBitVec_shiftLeft]
  show (x.toBitVec <<< ((nI n &&& 31).toBitVec.smod 32).toNat).getLsbD i = _
  rw [tb_s n hn, BitVec.getLsbD_shiftLeft]
  rcases Nat.lt_or_ge i n with h | h
  · simp [h, Nat.not_le.mpr h]
  · simp [hi, h, Nat.not_lt.mpr h]
theorem tb_sshr (n : Nat) (hn : n < 32) (x : Int32) {i : Nat} (hi : i < 32) : tb (x >>> (nI n &&& 31)) i = if n + i < 32 then tb x (n + i) else tb x 31 := by
  unfold tb
  rw [Int32.toBitVec_shiftRight]
  show (x.toBitVec.sshiftRight ((nI n &&& 31).toBitVec.smod 32).toNat).getLsbD i = _
  rw [tb_s n hn, BitVec.getLsbD_sshiftRight, BitVec.msb_eq_getLsbD_last]
  simp [hi]
theorem bt_tb {x : Int32} {k : Nat} (hk : k < 32) : bt x k = 0 ↔ tb x k = false := by
  have e : tb (bt x k) 0 = tb x k := by
    unfold bt
    rw [tb_and, tb_sshr k hk x (by decide), if_pos (by omega), tb_1 0 (by decide)]
    simp
  rcases bit01 (x >>> (nI k &&& 31)) with h | h
  · have h' : bt x k = 0 := h
    rw [h'] at e
    rw [h', ← e, tb_0]
    exact ⟨fun _ => rfl, fun _ => rfl⟩
  · have h' : bt x k = 1 := h
    rw [h'] at e
    rw [h', ← e]
    exact ⟨fun y => absurd y (by decide), fun y => absurd y (by decide)⟩
theorem bt_or1 (m : Int32) {f k : Nat} (hf : f < 32) (hk : k < 32) : bt (m ||| ((1 : Int32) <<< (nI f &&& 31))) k = 0 ↔ bt m k = 0 ∧ k ≠ f := by
  rw [bt_tb hk, bt_tb hk, tb_or, tb_shl f hf 1 hk, tb_1 _ (by omega)]
  by_cases a : tb m k = false
  · by_cases b : k = f
    · subst b; simp [a]
    · by_cases c : f ≤ k
      · have h1 : ¬ k - f = 0 := by omega
        have h2 : ¬ k ≤ f := by omega
        simp [a, b, h1, h2]
      · simp [a, b, c]
  · simp [a]
theorem bt_0 {k : Nat} (hk : k < 32) : bt 0 k = 0 := (bt_tb hk).mpr (tb_0 k)
/-- the facts that a way denies -/
def mk (d : Nat → Nat) (nd : Nat) (w : Int32) : Int32 := fo (fun k m => m ||| (bt w k <<< (nI (d k) &&& 31))) nd 0 0
theorem bt_mk {d : Nat → Nat} {w : Int32} {f : Nat} (hf : f < 24) : ∀ nd, (∀ k, k < nd → d k < 24) → (bt (mk d nd w) f = 0 ↔ ∀ k, k < nd → d k = f → bt w k = 0) := by
  intro nd
  induction nd with
  | zero => intro _; exact ⟨fun _ k hk => absurd hk (Nat.not_lt_zero k), fun _ => bt_0 (by omega)⟩
  | succ n ih =>
    intro hd
    have ih := ih (fun k hk => hd k (by omega))
    have e : mk d (n + 1) w = mk d n w ||| (bt w n <<< (nI (d n) &&& 31)) := by
      unfold mk
      rw [fo_snoc, Nat.zero_add]
    have dn := hd n (by omega)
    rw [e]
    rcases bit01 (w >>> (nI n &&& 31)) with h | h
    · have h' : bt w n = 0 := h
      have z : bt (mk d n w ||| ((0 : Int32) <<< (nI (d n) &&& 31))) f = 0 ↔ bt (mk d n w) f = 0 := by
        rw [bt_tb (by omega), bt_tb (by omega), tb_or, tb_shl (d n) (by omega) 0 (by omega), tb_0]
        simp
      rw [h', z, ih]
      refine ⟨fun y k hk e => ?_, fun y k hk e => y k (by omega) e⟩
      by_cases c : k = n
      · rw [c]; exact h'
      · exact y k (by omega) e
    · have h' : bt w n = 1 := h
      rw [h', bt_or1 _ (by omega) (by omega), ih]
      refine ⟨fun y k hk ek => ?_, fun y => ⟨fun k hk ek => y k (by omega) ek, fun c => ?_⟩⟩
      · by_cases c : k = n
        · rw [c] at ek
          exact absurd ek.symm y.2
        · exact y.1 k (by omega) ek
      · have := y n (by omega) c.symm
        rw [h'] at this
        exact absurd this (by decide)
theorem bt_nI {w k : Nat} (hk : k < 32) : bt (nI w) k = 0 ↔ w.testBit k = false := by
  rw [bt_tb hk]
  have e : tb (nI w) k = w.testBit k := by
    show (BitVec.ofNat 32 w).getLsbD k = _
    rw [BitVec.getLsbD_ofNat]
    simp [hk]
  rw [e]
/-- a way for each choice -/
theorem wy (P : Nat → Prop) : ∀ n, n ≤ 8 → ∃ w, w < 2 ^ n ∧ ∀ k, k < n → (bt (nI w) k = 0 ↔ ¬ P k) := by
  intro n
  induction n with
  | zero => intro _; exact ⟨0, by decide, fun k hk => absurd hk (Nat.not_lt_zero k)⟩
  | succ n ih =>
    intro hn
    obtain ⟨w, hw, h⟩ := ih (by omega)
    have z : w.testBit n = false := Nat.testBit_lt_two_pow hw
    by_cases c : P n
    · refine ⟨2 ^ n + w, by rw [Nat.pow_succ]; omega, fun k hk => ?_⟩
      rw [bt_nI (by omega)]
      by_cases e : k = n
      · subst e
        rw [Nat.testBit_two_pow_add_eq, z]
        exact ⟨fun y => absurd y (by decide), fun y => absurd c y⟩
      · rw [Nat.testBit_two_pow_add_gt (by omega), ← bt_nI (by omega)]
        exact h k (by omega)
    · refine ⟨w, by rw [Nat.pow_succ]; omega, fun k hk => ?_⟩
      by_cases e : k = n
      · subst e
        rw [bt_nI (by omega), z]
        exact ⟨fun _ => c, fun _ => rfl⟩
      · exact h k (by omega)
/-! ===== outcomes, gathered ===== -/
def oz (b : Nat → Bool) (u : Nat → Int32) : Nat → Int32
  | 0 => 0
  | n + 1 => if b n = true then oz b u n ||| u n else oz b u n
def z0 (k : Nat) : Nat → Bool := fun w => decide (bt (nI w) k = 0)
def z1 (k : Nat) : Nat → Bool := fun w => ! decide (bt (nI w) k = 0)
theorem p2w : ∀ n, n ≤ 8 → (1 : Int32) <<< (nI n &&& 31) = nI (2 ^ n) := by decide +kernel
theorem p2b : ∀ n, n ≤ 8 → 0 < 2 ^ n ∧ 2 ^ n ≤ 256 := by decide +kernel
/-- an outcome as a bit -/
def ob (r : Int32) : Int32 := if r = -1 then 64 else 1 <<< (r &&& 31)
theorem oz_ub {b : Nat → Bool} {u : Nat → Int32} {w : Nat} (hb : b w = true) : ∀ n, w < n → u w ||| oz b u n = oz b u n := by
  intro n
  induction n with
  | zero => intro h; exact absurd h (Nat.not_lt_zero w)
  | succ n ih =>
    intro h
    rw [oz]
    by_cases e : w = n
    · subst e
      rw [if_pos hb, Int32.or_comm (u w) (oz b u w ||| u w), Int32.or_assoc, Int32.or_self]
    · have ih := ih (by omega)
      by_cases c : b n = true
      · rw [if_pos c, ← Int32.or_assoc, ih]
      · rw [if_neg c, ih]
theorem oz_lub {b : Nat → Bool} {u : Nat → Int32} {y : Int32} : ∀ n, (∀ w, w < n → b w = true → u w ||| y = y) → oz b u n ||| y = y := by
  intro n
  induction n with
  | zero => intro _; rw [oz]; exact Int32.zero_or
  | succ n ih =>
    intro h
    have ih := ih (fun w hw => h w (by omega))
    rw [oz]
    by_cases c : b n = true
    · rw [if_pos c, Int32.or_assoc, h n (by omega) c, ih]
    · rw [if_neg c, ih]
theorem oz_eq {b b' : Nat → Bool} {u v : Nat → Int32} {n n' : Nat} (h1 : ∀ w, w < n → b w = true → ∃ t, t < n' ∧ b' t = true ∧ u w = v t) (h2 : ∀ t, t < n' → b' t = true → ∃ w, w < n ∧ b w = true ∧ u w = v t) : oz b u n = oz b' v n' := by
  have a : oz b u n ||| oz b' v n' = oz b' v n' := oz_lub n (fun w hw hb => by
    obtain ⟨t, ht, hb', e⟩ := h1 w hw hb
    rw [e]
    exact oz_ub hb' n' ht)
  have c : oz b' v n' ||| oz b u n = oz b u n := oz_lub n' (fun t ht hb => by
    obtain ⟨w, hw, hb', e⟩ := h2 t ht hb
    rw [← e]
    exact oz_ub hb' n hw)
  rw [← c, Int32.or_comm (oz b' v n') (oz b u n), a]
theorem oz_stop {b : Nat → Bool} {u : Nat → Int32} {t : Nat} : ∀ n, t ≤ n → (∀ s, t ≤ s → s < n → ¬ b s = true) → oz b u n = oz b u t := by
  intro n
  induction n with
  | zero => intro h _; rw [show t = 0 by omega]
  | succ n ih =>
    intro h hs
    by_cases e : t = n + 1
    · rw [e]
    · rw [oz, if_neg (hs n (by omega) (by omega))]
      exact ih (by omega) (fun s a c => hs s a (by omega))
/-! ===== turns ===== -/
/-- a choice that goes on while what was chosen isn't denied: g is what tells, v where -/
def Chs (nf : Nat) (g v : Int32 → Int32) : Prop := (∀ m m', (∀ f, f < 24 → bt m' f = 0 → bt m f = 0) → (∀ f, f < 24 → g m = nI f → bt m' f = 0) → g m' = g m ∧ v m' = v m) ∧ (∀ m, g m = -2 ∨ g m = -1 ∨ ∃ f, f < nf ∧ g m = nI f ∧ bt m f = 0)
/-- what was denied ahead of a turn -/
def Ms (g : Int32 → Int32) : Nat → Int32
  | 0 => 0
  | t + 1 => Ms g t ||| ((1 : Int32) <<< (g (Ms g t) &&& 31))
/-- a doubted fact -/
def dbt (N : Nat → Int32) (nf : Nat) (x : Int32) : Prop := ∃ f, f < nf ∧ x = nI f ∧ N (297 + f) = 1
def Trn (N : Nat → Int32) (nf : Nat) (g : Int32 → Int32) (nt : Nat) : Prop := 0 < nt ∧ nt ≤ 9 ∧ (∀ t, t + 1 < nt → dbt N nf (g (Ms g t))) ∧ ¬ dbt N nf (g (Ms g (nt - 1)))
theorem Ms_bt {N : Nat → Int32} {nf : Nat} {g : Int32 → Int32} (hb : nf ≤ 24) {f : Nat} (hf : f < 24) : ∀ t, (∀ s, s < t → dbt N nf (g (Ms g s))) → (bt (Ms g t) f = 0 ↔ ∀ s, s < t → g (Ms g s) ≠ nI f) := by
  intro t
  induction t with
  | zero => intro _; exact ⟨fun _ s hs => absurd hs (Nat.not_lt_zero s), fun _ => bt_0 (by omega)⟩
  | succ t ih =>
    intro h
    have ih := ih (fun s hs => h s (by omega))
    obtain ⟨f0, h0, e0, _⟩ := h t (by omega)
    rw [Ms, e0, bt_or1 _ (by omega) (by omega), ih]
    refine ⟨fun y s hs => ?_, fun y => ⟨fun s hs => y s (by omega), fun c => ?_⟩⟩
    · by_cases c : s = t
      · subst c
        rw [e0]
        exact fun z => y.2 ((nI_eq (by omega) (by omega)).mp z).symm
      · exact y.1 s (by omega)
    · exact y t (by omega) (by rw [e0, c])
/-- doubted facts that aren't denied -/
def und (N : Nat → Int32) (nf : Nat) (m : Int32) : Nat := fb_ct (fun f => decide (N (297 + f) = 1 ∧ bt m f = 0)) nf
theorem Trn.ex {N : Nat → Int32} {nf : Nat} {g v : Int32 → Int32} (hb : nf ≤ 24) (h8 : dc N nf ≤ 8) (hc : Chs nf g v) : ∃ nt, Trn N nf g nt := by
  have key : ∀ t, (∀ s, s < t → dbt N nf (g (Ms g s))) → und N nf (Ms g t) + t ≤ 8 := by
    intro t
    induction t with
    | zero =>
      intro _
      refine Nat.le_trans ?_ h8
      show fb_ct (fun f => decide (N (297 + f) = 1 ∧ bt (Ms g 0) f = 0)) nf ≤ fb_ct (fun k => decide (N (297 + k) = 1)) nf
      exact fb_ct_sub (fun k _ hk => by
        have := (of_decide_eq_true hk).1
        exact decide_eq_true this)
    | succ t ih =>
      intro h
      have ih := ih (fun s hs => h s (by omega))
      obtain ⟨f0, h0, e0, d0⟩ := h t (by omega)
      have b0 : bt (Ms g t) f0 = 0 := by
        rcases hc.2 (Ms g t) with e | e | ⟨f, hf, e, hbt⟩
        · rw [e0] at e; exact absurd e (nIm2 (by omega))
        · rw [e0] at e; exact absurd e (nIm1 (by omega))
        · rw [e0] at e
          rw [(nI_eq (by omega) (by omega)).mp e]
          exact hbt
      have u1 : und N nf (Ms g (t + 1)) = fb_ct (fun k => if k = f0 then false else decide (N (297 + k) = 1 ∧ bt (Ms g t) k = 0)) nf := by
        unfold und
        refine fb_ct_cong (fun k hk => ?_)
        rw [Ms, e0]
        have := bt_or1 (Ms g t) (f := f0) (k := k) (by omega) (by omega)
        by_cases c : k = f0
        · rw [if_pos c]
          exact decide_eq_false (fun y => (this.mp y.2).2 c)
        · rw [if_neg c]
          by_cases z : N (297 + k) = 1 ∧ bt (Ms g t) k = 0
          · rw [decide_eq_true z]
            exact decide_eq_true ⟨z.1, this.mpr ⟨z.2, c⟩⟩
          · rw [decide_eq_false z]
            exact decide_eq_false (fun y => z ⟨y.1, (this.mp y.2).1⟩)
      have u2 := fb_ct_upd (fun k => decide (N (297 + k) = 1 ∧ bt (Ms g t) k = 0)) false h0
      rw [if_pos (show decide (N (297 + f0) = 1 ∧ bt (Ms g t) f0 = 0) = true from decide_eq_true ⟨d0, b0⟩), if_neg (show ¬ (false = true) by decide)] at u2
      unfold und at ih
      rw [u1]
      omega
  classical
  have hex : ∃ t, t < 9 ∧ ¬ dbt N nf (g (Ms g t)) := Classical.byContradiction (fun y => by
    have := key 9 (fun s hs => Classical.not_not.mp (fun z => y ⟨s, hs, z⟩))
    omega)
  obtain ⟨t0, h0, h1, h2⟩ := fb_first (p := fun t => ¬ dbt N nf (g (Ms g t))) hex
  exact ⟨t0 + 1, by omega, by omega, fun t ht => Classical.not_not.mp (h2 t (by omega)), h1⟩
/-- each way is told by a turn: the first whose gain it doesn't deny -/
theorem Trn.way {N : Nat → Int32} {nf nt : Nat} {g v : Int32 → Int32} (hb : nf ≤ 24) (hc : Chs nf g v) (ht : Trn N nf g nt) {m : Int32} (hm : ∀ f, f < 24 → ¬ bt m f = 0 → f < nf ∧ N (297 + f) = 1) : ∃ t, t < nt ∧ (∀ s, s < t → ∃ f, f < 24 ∧ g (Ms g s) = nI f ∧ ¬ bt m f = 0) ∧ (∀ f, f < 24 → g (Ms g t) = nI f → bt m f = 0) ∧ v m = v (Ms g t) := by
  obtain ⟨n0, n9, h1, h2⟩ := ht
  classical
  have hex : ∃ t, t < nt ∧ (∀ f, f < 24 → g (Ms g t) = nI f → bt m f = 0) := ⟨nt - 1, by omega, fun f hf e => Classical.byContradiction (fun y => h2 (by
    obtain ⟨a, b⟩ := hm f hf y
    exact ⟨f, a, e, b⟩))⟩
  obtain ⟨t, ht, p1, p2⟩ := fb_first (p := fun t => ∀ f, f < 24 → g (Ms g t) = nI f → bt m f = 0) hex
  have p2' : ∀ s, s < t → ∃ f, f < 24 ∧ g (Ms g s) = nI f ∧ ¬ bt m f = 0 := fun s hs => Classical.byContradiction (fun y => p2 s hs (fun f hf e => Classical.byContradiction (fun z => y ⟨f, hf, e, z⟩)))
  refine ⟨t, ht, p2', p1, (hc.1 (Ms g t) m (fun f hf y => ?_) p1).2⟩
  rw [Ms_bt hb hf t (fun s hs => h1 s (by omega))]
  intro s hs e
  obtain ⟨f', hf', e', z⟩ := p2' s hs
  rw [(nI_eq (by omega) (by omega)).mp (e'.symm.trans e)] at z
  exact z y
/-- each turn tells a way, with more denied too -/
theorem Trn.turn {N : Nat → Int32} {nf nt nd : Nat} {d : Nat → Nat} {g v : Int32 → Int32} (hb : nf ≤ 24) (hc : Chs nf g v) (ht : Trn N nf g nt) (hd : Dl N nf nd d) (X : Nat → Prop) {t : Nat} (htn : t < nt) (hX : ∀ k, k < nd → g (Ms g t) = nI (d k) → ¬ X k) : ∃ w, w < 2 ^ nd ∧ (∀ k, k < nd → (bt (nI w) k = 0 ↔ ¬ ((∃ s, s < t ∧ g (Ms g s) = nI (d k)) ∨ X k))) ∧ v (mk d nd (nI w)) = v (Ms g t) := by
  obtain ⟨n0, n9, h1, h2⟩ := ht
  have h1' : ∀ s, s < t → dbt N nf (g (Ms g s)) := fun s hs => h1 s (by omega)
  have d24 : ∀ k, k < nd → d k < 24 := fun k hk => by have := (hd.2.2 k hk).1; omega
  obtain ⟨w, hw, h⟩ := wy (fun k => (∃ s, s < t ∧ g (Ms g s) = nI (d k)) ∨ X k) nd hd.2.1
  refine ⟨w, hw, h, (hc.1 (Ms g t) _ (fun f hf y => ?_) (fun f hf e => ?_)).2⟩
  · rw [bt_mk hf nd d24] at y
    rw [Ms_bt hb hf t h1']
    intro s hs e
    obtain ⟨f', hf', e', dd⟩ := h1' s hs
    rw [(nI_eq (by omega) (by omega)).mp (e'.symm.trans e)] at dd hf'
    obtain ⟨q1, q2⟩ := hd.at hf' dd
    exact (h _ q1).mp (y _ q1 q2) (Or.inl ⟨s, hs, by rw [q2]; exact e⟩)
  · rw [bt_mk hf nd d24]
    intro k hk ek
    rw [h k hk]
    rintro (⟨s, hs, es⟩ | x)
    · rcases hc.2 (Ms g t) with z | z | ⟨f', hf', z, zb⟩
      · rw [e] at z; exact nIm2 (by omega) z
      · rw [e] at z; exact nIm1 (by omega) z
      · rw [e] at z
        rw [← (nI_eq (by omega) (by omega)).mp z] at zb
        exact (Ms_bt hb hf t h1').mp zb s hs (by rw [es, ek])
    · exact hX k hk (by rw [e, ek]) x
/-- none ahead of t is x -/
def nsn (γ : Nat → Int32) (x : Int32) : Nat → Bool
  | 0 => true
  | t + 1 => nsn γ x t && ! decide (γ t = x)
theorem nsn_iff {γ : Nat → Int32} {x : Int32} : ∀ t, nsn γ x t = true ↔ ∀ s, s < t → γ s ≠ x := by
  intro t
  induction t with
  | zero => exact ⟨fun _ s hs => absurd hs (Nat.not_lt_zero s), fun _ => rfl⟩
  | succ t ih =>
    rw [nsn, Bool.and_eq_true, ih]
    refine ⟨fun y s hs => ?_, fun y => ⟨fun s hs => y s (by omega), ?_⟩⟩
    · by_cases c : s = t
      · subst c
        have := y.2
        simpa using this
      · exact y.1 s (by omega)
    · have := y t (by omega)
      simpa using this
/-- the ways' outcomes, and the turns' -/
def uw (v : Int32 → Int32) (d : Nat → Nat) (nd : Nat) (w : Nat) : Int32 := ob (v (mk d nd (nI w)))
def tw (g v : Int32 → Int32) (t : Nat) : Int32 := ob (v (Ms g t))
theorem mk_sub {N : Nat → Int32} {nf nd : Nat} {d : Nat → Nat} (hb : nf ≤ 24) (hd : Dl N nf nd d) (w : Int32) : ∀ f, f < 24 → ¬ bt (mk d nd w) f = 0 → f < nf ∧ N (297 + f) = 1 := by
  intro f hf y
  refine Classical.byContradiction (fun z => y ((bt_mk hf nd (fun k hk => by have := (hd.2.2 k hk).1; omega)).mpr (fun k hk e => ?_)))
  obtain ⟨q1, q2, _⟩ := hd.2.2 k hk
  rw [e] at q1 q2
  exact absurd (And.intro q1 q2) z
section TW
variable {N : Nat → Int32} {nf nt nd : Nat} {d : Nat → Nat} {g v : Int32 → Int32}
theorem tw_all (hb : nf ≤ 24) (hc : Chs nf g v) (ht : Trn N nf g nt) (hd : Dl N nf nd d) : oz (fun _ => true) (uw v d nd) (2 ^ nd) = oz (nsn (fun t => g (Ms g t)) (-2)) (tw g v) nt := by
  refine oz_eq (fun w _ _ => ?_) (fun t h _ => ?_)
  · obtain ⟨t, h1, _, _, h4⟩ := ht.way hb hc (mk_sub hb hd (nI w))
    refine ⟨t, h1, (nsn_iff t).mpr (fun s hs e => ?_), congrArg ob h4⟩
    obtain ⟨f, hf, e', _⟩ := ht.2.2.1 s (by omega)
    have e : g (Ms g s) = -2 := e
    rw [e'] at e
    exact nIm2 (by omega) e
  · obtain ⟨w, h1, _, h3⟩ := ht.turn hb hc hd (fun _ => False) h (fun _ _ _ y => y)
    exact ⟨w, h1, rfl, congrArg ob h3⟩
theorem tw_so (hb : nf ≤ 24) (hc : Chs nf g v) (ht : Trn N nf g nt) (hd : Dl N nf nd d) {k : Nat} (hk : k < nd) : oz (z0 k) (uw v d nd) (2 ^ nd) = oz (nsn (fun t => g (Ms g t)) (nI (d k))) (tw g v) nt := by
  have dk := (hd.2.2 k hk).1
  have d24 : ∀ k, k < nd → d k < 24 := fun k hk => by have := (hd.2.2 k hk).1; omega
  refine oz_eq (fun w _ hz => ?_) (fun t h hz => ?_)
  · obtain ⟨t, h1, h2, _, h4⟩ := ht.way hb hc (mk_sub hb hd (nI w))
    refine ⟨t, h1, (nsn_iff t).mpr (fun s hs e => ?_), congrArg ob h4⟩
    obtain ⟨f, hf, e', z⟩ := h2 s hs
    have ef : f = d k := (nI_eq (by omega) (by omega)).mp (e'.symm.trans e)
    have hz : bt (nI w) k = 0 := of_decide_eq_true hz
    refine z ((bt_mk hf nd d24).mpr (fun k' hk' e2 => ?_))
    have q1 := (hd.2.2 k hk).2.2
    have q2 := (hd.2.2 k' hk').2.2
    rw [e2, ef, q1] at q2
    rw [← q2]
    exact hz
  · obtain ⟨w, h1, h2, h3⟩ := ht.turn hb hc hd (fun _ => False) h (fun _ _ _ y => y)
    refine ⟨w, h1, decide_eq_true ((h2 k hk).mpr ?_), congrArg ob h3⟩
    rintro (⟨s, hs, e⟩ | y)
    · exact (nsn_iff t).mp hz s hs e
    · exact y
theorem tw_not (hb : nf ≤ 24) (hc : Chs nf g v) (ht : Trn N nf g nt) (hd : Dl N nf nd d) {k : Nat} (hk : k < nd) : oz (z1 k) (uw v d nd) (2 ^ nd) = oz (fun t => ! decide (g (Ms g t) = nI (d k))) (tw g v) nt := by
  have dk := (hd.2.2 k hk).1
  have d24 : ∀ k, k < nd → d k < 24 := fun k hk => by have := (hd.2.2 k hk).1; omega
  refine oz_eq (fun w _ hz => ?_) (fun t h hz => ?_)
  · obtain ⟨t, h1, _, h3, h4⟩ := ht.way hb hc (mk_sub hb hd (nI w))
    refine ⟨t, h1, ?_, congrArg ob h4⟩
    have hz : ¬ bt (nI w) k = 0 := by
      unfold z1 at hz
      simpa using hz
    have : ¬ g (Ms g t) = nI (d k) := fun e => hz ((bt_mk (d24 k hk) nd d24).mp (h3 (d k) (d24 k hk) e) k hk rfl)
    simp [this]
  · have hz : ¬ g (Ms g t) = nI (d k) := by simpa using hz
    obtain ⟨w, h1, h2, h3⟩ := ht.turn hb hc hd (fun k' => k' = k) h (fun k' _ e y => hz (by rw [← y]; exact e))
    refine ⟨w, h1, ?_, congrArg ob h3⟩
    have : ¬ bt (nI w) k = 0 := fun y => (h2 k hk).mp y (Or.inr rfl)
    unfold z1
    simp [this]
end TW
