theorem e7_leaderOf {σ : gSt} {nl nq p : Nat} (day : Int32) (hC : Col σ (σ 102)) (hX : Exc σ (σ 102)) (h3 : σ 26 0 = nI nl) (hb : nl ≤ 12) (hq : nq ≤ 10) (hp : p < nq) (hL : RgL (σ 102) nq) : (gob (σ 102) nl day p ∧ M_X7_leaderOf (nI p) day σ = some (σ 102 (79 + p), σ)) ∨ (¬ gob (σ 102) nl day p ∧ M_X7_leaderOf (nI p) day σ = some (-1, σ)) := by
  have g12 := hC.get0 12 49 10 (by decide) (show p < 10 by omega)
  have g14 := hC.get0 14 69 10 (by decide) (show p < 10 by omega)
  have g15 := hC.get0 15 79 10 (by decide) (show p < 10 by omega)
  unfold M_X7_leaderOf
  rw [gIx_n (by omega) (by omega), gNm_e, gIx_n (by omega) (by omega), gNm_e, gIx_n (by omega) (by omega), nI_tn (by omega), g12, g14]
  rcases hL.1 p hp with z | ⟨⟨i, hi, z⟩, kd⟩
  · -- nobody to go by
    right
    have ng : ¬ gob (σ 102) nl day p := fun y => by
      have := y.1
      rw [z] at this
      exact absurd this (by decide)
    refine ⟨ng, ?_⟩
    by_cases c1 : σ 102 (49 + p) = 1
    · rw [if_pos c1]
      by_cases c2 : day < σ 16 p
      · rw [if_pos c2]
      · rw [if_neg c2]
        rcases e2_anyRules (k := 3) (d := σ 16 p) hC hX h3 hb (Or.inr rfl) with ⟨_, q⟩ | ⟨_, q⟩
        · rw [q, gBd_s, if_neg (show ¬ (1 : Int32) = 0 by decide), gIx_n (by omega) (by omega), g15, z]
        · rw [q, gBd_s, if_pos (show (0 : Int32) = 0 from rfl)]
    · rw [if_neg c1, gIx_n (by omega) (by omega)]
      by_cases c2 : σ 102 (49 + p) = 2
      · rw [if_pos c2]
        by_cases c3 : day < σ 102 (69 + p)
        · rw [if_pos c3]
        · rw [if_neg c3]
          rcases e2_anyAbove (d := σ 102 (69 + p)) (x := day - σ 102 (69 + p)) hC hX h3 hb with ⟨_, q⟩ | ⟨_, q⟩
          · rw [q, gBd_s, if_neg (show ¬ (1 : Int32) = 0 by decide), gIx_n (by omega) (by omega), g15, z]
          · rw [q, gBd_s, if_pos (show (0 : Int32) = 0 from rfl)]
      · rw [if_neg c2]
  · have c0 : 0 ≤ σ 102 (79 + p) := by rw [z]; exact nI_pos' (by omega)
    have g16 : σ 16 p = σ 102 (89 + p) := hX.1 p (by omega) c0
    rw [g16]
    by_cases c1 : σ 102 (49 + p) = 1
    · rw [if_pos c1]
      by_cases c2 : day < σ 102 (89 + p)
      · rw [if_pos c2]
        exact Or.inr ⟨fun y => y.2.elim (fun w => w.2.1 c2) (fun w => w.1 c1), rfl⟩
      · rw [if_neg c2]
        rcases e2_anyRules (k := 3) (d := σ 102 (89 + p)) hC hX h3 hb (Or.inr rfl) with ⟨c, q⟩ | ⟨c, q⟩
        · rw [q, gBd_s, if_neg (show ¬ (1 : Int32) = 0 by decide), gIx_n (by omega) (by omega), g15]
          exact Or.inl ⟨⟨c0, Or.inl ⟨c1, c2, c⟩⟩, rfl⟩
        · rw [q, gBd_s, if_pos (show (0 : Int32) = 0 from rfl)]
          exact Or.inr ⟨fun y => y.2.elim (fun w => c w.2.2) (fun w => w.1 c1), rfl⟩
    · have c2 : σ 102 (49 + p) = 2 := kd.resolve_left c1
      rw [if_neg c1, gIx_n (by omega) (by omega), if_pos c2]
      by_cases c3 : day < σ 102 (69 + p)
      · rw [if_pos c3]
        exact Or.inr ⟨fun y => y.2.elim (fun w => c1 w.1) (fun w => w.2.1 c3), rfl⟩
      · rw [if_neg c3]
        rcases e2_anyAbove (d := σ 102 (69 + p)) (x := day - σ 102 (69 + p)) hC hX h3 hb with ⟨c, q⟩ | ⟨c, q⟩
        · rw [q, gBd_s, if_neg (show ¬ (1 : Int32) = 0 by decide), gIx_n (by omega) (by omega), g15]
          exact Or.inl ⟨⟨c0, Or.inr ⟨c1, c3, c⟩⟩, rfl⟩
        · rw [q, gBd_s, if_pos (show (0 : Int32) = 0 from rfl)]
          exact Or.inr ⟨fun y => y.2.elim (fun w => c1 w.1) (fun w => c w.2.2), rfl⟩
/-- a fact's day, and whether a law lets it settle -/
def gfd (N : Nat → Int32) (f : Nat) : Int32 := if N (129 + f) = 0 then N (249 + f) else N (225 + f)
def glaw (N : Nat → Int32) (nl f : Nat) : Prop := (N (129 + f) = 0 ∧ lawAt N nl 1 (N (249 + f)) (N (249 + f) - N (225 + f) + 1)) ∨ (¬ N (129 + f) = 0 ∧ lawAt N nl 2 (N (225 + f)) (N (201 + f)))
/-- a fact gains -/
def gok (N : Nat → Int32) (nl : Nat) (day known : Int32) (f : Nat) : Prop := ¬ known < N (273 + f) ∧ glaw N nl f ∧ ¬ day < gfd N f
theorem e7_gainByFact {σ : gSt} {nl f : Nat} (day : Int32) (hC : Col σ (σ 102)) (hX : Exc σ (σ 102)) (h3 : σ 26 0 = nI nl) (hb : nl ≤ 12) (hf : f < 24) (hF : RgF (σ 102)) : (glaw (σ 102) nl f ∧ ¬ day < gfd (σ 102) f ∧ M_X7_gainByFact (nI f) day σ = some (gfd (σ 102) f, σ)) ∨ (¬ (glaw (σ 102) nl f ∧ ¬ day < gfd (σ 102) f) ∧ M_X7_gainByFact (nI f) day σ = some (-1, σ)) := by
  have g18 := hC.get0 18 129 24 (by decide) hf
  have g22 := hC.get0 22 225 24 (by decide) hf
  have g23 := hC.get0 23 249 24 (by decide) hf
  unfold M_X7_gainByFact glaw gfd
  rw [gIx_n (by omega) (by omega), gNm_e, gIx_n (by omega) (by omega), gNm_e, gIx_n (by omega) (by omega), nI_tn (by omega), g18, g22, g23]
  by_cases c1 : σ 102 (129 + f) = 0
  · rw [if_pos c1, if_pos c1]
    rcases e2_anyAtMost (k := 1) (d := σ 102 (249 + f)) (x := σ 102 (249 + f) - σ 102 (225 + f) + 1) hC hX h3 hb (Or.inl rfl) with ⟨c, q⟩ | ⟨c, q⟩
    · rw [q, gBd_s, if_neg (show ¬ (1 : Int32) = 0 by decide)]
      by_cases c2 : day < σ 102 (249 + f)
      · rw [if_pos c2]
        exact Or.inr ⟨fun y => y.2 c2, rfl⟩
      · rw [if_neg c2]
        exact Or.inl ⟨Or.inl ⟨c1, c⟩, c2, rfl⟩
    · rw [q, gBd_s, if_pos (show (0 : Int32) = 0 from rfl)]
      exact Or.inr ⟨fun y => y.1.elim (fun z => c z.2) (fun z => z.1 c1), rfl⟩
  · have k1 : σ 102 (129 + f) = 1 := (hF f hf).1.resolve_left c1
    have g21 : σ 21 f = σ 102 (201 + f) := hX.2.1 f hf k1
    rw [if_neg c1, if_neg c1, gIx_n (by omega) (by omega), g21]
    rcases e2_anyAtMost (k := 2) (d := σ 102 (225 + f)) (x := σ 102 (201 + f)) hC hX h3 hb (Or.inr (Or.inl rfl)) with ⟨c, q⟩ | ⟨c, q⟩
    · rw [q, gBd_s, if_neg (show ¬ (1 : Int32) = 0 by decide)]
      by_cases c2 : day < σ 102 (225 + f)
      · rw [if_pos c2]
        exact Or.inr ⟨fun y => y.2 c2, rfl⟩
      · rw [if_neg c2]
        exact Or.inl ⟨Or.inr ⟨c1, c⟩, c2, rfl⟩
    · rw [q, gBd_s, if_pos (show (0 : Int32) = 0 from rfl)]
      exact Or.inr ⟨fun y => y.1.elim (fun z => c1 z.1) (fun z => c z.2), rfl⟩
/-- by birth: the day, or -1 -/
def bok (N : Nat → Int32) (nl : Nat) (day : Int32) (p : Nat) : Prop := ¬ day < N (69 + p) ∧ lawAt N nl 0 (N (69 + p)) 0
theorem e7_gainByBirth {σ : gSt} {nl p : Nat} (day : Int32) (hC : Col σ (σ 102)) (hX : Exc σ (σ 102)) (h3 : σ 26 0 = nI nl) (hb : nl ≤ 12) (hp : p < 10) : (bok (σ 102) nl day p ∧ M_X7_gainByBirth (nI p) day σ = some (σ 102 (69 + p), σ)) ∨ (¬ bok (σ 102) nl day p ∧ M_X7_gainByBirth (nI p) day σ = some (-1, σ)) := by
  have g14 := hC.get0 14 69 10 (by decide) hp
  unfold M_X7_gainByBirth bok
  rw [gIx_n (by omega) (by omega), gNm_e, nI_tn (by omega), g14]
  by_cases c1 : day < σ 102 (69 + p)
  · rw [if_pos c1]
    exact Or.inr ⟨fun y => y.1 c1, rfl⟩
  · rw [if_neg c1]
    rcases e2_anyRules (k := 0) (d := σ 102 (69 + p)) hC hX h3 hb (Or.inl rfl) with ⟨c, q⟩ | ⟨c, q⟩
    · rw [q, gBd_s, if_neg (show ¬ (1 : Int32) = 0 by decide)]
      exact Or.inl ⟨⟨c1, c⟩, rfl⟩
    · rw [q, gBd_s, if_pos (show (0 : Int32) = 0 from rfl)]
      exact Or.inr ⟨fun y => c y.2, rfl⟩
/-- a step over a fact: (latest, parish) -/
noncomputable def ost (N : Nat → Int32) (nl : Nat) (day known p mask : Int32) (f : Nat) (q : Int32 × Int32) : Int32 × Int32 :=
  @ite _ (N (153 + f) = p ∧ ((mask >>> (nI f &&& 31)) &&& 1) = 0 ∧ gok N nl day known f ∧ ¬ gfd N f < q.1) (Classical.propDecidable _) (gfd N f, N (177 + f)) q
noncomputable def oin (N : Nat → Int32) (nl : Nat) (day : Int32) (p : Nat) : Int32 × Int32 := @ite _ (bok N nl day p) (Classical.propDecidable _) (N (69 + p), N (59 + p)) (-1, -1)
/-- one's own settlement, -1 without -/
noncomputable def own (N : Nat → Int32) (nl nf : Nat) (day known mask : Int32) (p : Nat) : Int32 := (fo (ost N nl day known (nI p) mask) nf 0 (oin N nl day p)).2
theorem gfd_pos {N : Nat → Int32} (hF : RgF N) {f : Nat} (hf : f < 24) : 0 ≤ gfd N f ∧ gfd N f ≠ -1 := by
  have h := hF f hf
  have h1 : 0 ≤ gfd N f := by
    unfold gfd
    by_cases c : N (129 + f) = 0
    · rw [if_pos c]; exact h.2.2.2.1
    · rw [if_neg c]; exact h.2.2.1.1
  refine ⟨h1, fun e => ?_⟩
  rw [e] at h1
  exact absurd h1 (by decide)
theorem bit01 (x : Int32) : x &&& 1 = 0 ∨ x &&& 1 = 1 := by
  obtain ⟨j, hj, e⟩ := pk_andE x (m := 1) 1 (by decide)
  rcases (show j = 0 ∨ j = 1 by omega) with rfl | rfl
  · exact Or.inl e
  · exact Or.inr e
/-- one bit of a mask -/
def bt (w : Int32) (k : Nat) : Int32 := (w >>> (nI k &&& 31)) &&& 1
theorem nIm2 {i : Nat} (h : i < 1000) : ¬ nI i = -2 := fun e => by
  have h1 : (nI i).toInt = i := nI_toInt (by omega)
  rw [e] at h1
  have h2 : (-2 : Int32).toInt = -2 := rfl
  omega
/-- a step over a fact: (latest, by what) -/
noncomputable def gst (N : Nat → Int32) (nl : Nat) (day known p mask : Int32) (f : Nat) (q : Int32 × Int32) : Int32 × Int32 :=
  @ite _ (N (153 + f) = p ∧ bt mask f = 0 ∧ gok N nl day known f ∧ ¬ gfd N f < q.1) (Classical.propDecidable _) (gfd N f, nI f) q
noncomputable def gin (N : Nat → Int32) (nl : Nat) (day : Int32) (p : Nat) : Int32 × Int32 := @ite _ (bok N nl day p) (Classical.propDecidable _) (N (69 + p), -1) (-1, -2)
/-- by what one is settled of its own: a fact, -1 by birth, -2 by nothing -/
noncomputable def lg (N : Nat → Int32) (nl nf : Nat) (day known mask : Int32) (p : Nat) : Int32 := (fo (gst N nl day known (nI p) mask) nf 0 (gin N nl day p)).2
/-- where that is -/
def pb (N : Nat → Int32) (p : Nat) (g : Int32) : Int32 := if g = -1 then N (59 + p) else if g = -2 then -1 else N (177 + g.toNatClampNeg)
theorem pb_f {N : Nat → Int32} {p f : Nat} (hf : f < 24) : pb N p (nI f) = N (177 + f) := by
  unfold pb
  rw [if_neg (nIm1 (by omega)), if_neg (nIm2 (by omega)), nI_tn (by omega)]
theorem own_lg {N : Nat → Int32} (nl nf : Nat) (day known mask : Int32) (p : Nat) (hb : nf ≤ 24) : own N nl nf day known mask p = pb N p (lg N nl nf day known mask p) := by
  have key : ∀ (d i : Nat) (q q' : Int32 × Int32), i + d ≤ 24 → q.1 = q'.1 → q.2 = pb N p q'.2 → (fo (ost N nl day known (nI p) mask) d i q).2 = pb N p (fo (gst N nl day known (nI p) mask) d i q').2 := by
    intro d
    induction d with
    | zero => intro i q q' _ _ h; exact h
    | succ d ih =>
      intro i q q' hi h1 h2
      rw [fo, fo]
      by_cases c : N (153 + i) = nI p ∧ bt mask i = 0 ∧ gok N nl day known i ∧ ¬ gfd N i < q'.1
      · have e1 : ost N nl day known (nI p) mask i q = (gfd N i, N (177 + i)) := if_pos ⟨c.1, c.2.1, c.2.2.1, by rw [h1]; exact c.2.2.2⟩
        have e2 : gst N nl day known (nI p) mask i q' = (gfd N i, nI i) := if_pos c
        rw [e1, e2]
        exact ih (i + 1) _ _ (by omega) rfl (pb_f (by omega)).symm
      · have e1 : ost N nl day known (nI p) mask i q = q := if_neg (fun y => c ⟨y.1, y.2.1, y.2.2.1, by rw [← h1]; exact y.2.2.2⟩)
        have e2 : gst N nl day known (nI p) mask i q' = q' := if_neg c
        rw [e1, e2]
        exact ih (i + 1) _ _ (by omega) h1 h2
  unfold own lg
  by_cases c : bok N nl day p
  · have e1 : oin N nl day p = (N (69 + p), N (59 + p)) := if_pos c
    have e2 : gin N nl day p = (N (69 + p), -1) := if_pos c
    rw [e1, e2]
    refine key nf 0 _ _ (by omega) rfl ?_
    show N (59 + p) = pb N p (-1)
    unfold pb
    rw [if_pos rfl]
  · have e1 : oin N nl day p = (-1, -1) := if_neg c
    have e2 : gin N nl day p = (-1, -2) := if_neg c
    rw [e1, e2]
    refine key nf 0 _ _ (by omega) rfl ?_
    show -1 = pb N p (-2)
    unfold pb
    rw [if_neg (show ¬ ((-2 : Int32) = -1) by decide), if_pos rfl]
theorem lg_rng {N : Nat → Int32} (nl nf : Nat) (day known mask : Int32) (p : Nat) : lg N nl nf day known mask p = -2 ∨ lg N nl nf day known mask p = -1 ∨ ∃ f, f < nf ∧ lg N nl nf day known mask p = nI f ∧ bt mask f = 0 := by
  have key : ∀ (d i : Nat) (q : Int32 × Int32), i + d = nf → (q.2 = -2 ∨ q.2 = -1 ∨ ∃ f, f < nf ∧ q.2 = nI f ∧ bt mask f = 0) → ((fo (gst N nl day known (nI p) mask) d i q).2 = -2 ∨ (fo (gst N nl day known (nI p) mask) d i q).2 = -1 ∨ ∃ f, f < nf ∧ (fo (gst N nl day known (nI p) mask) d i q).2 = nI f ∧ bt mask f = 0) := by
    intro d
    induction d with
    | zero => intro i q _ h; exact h
    | succ d ih =>
      intro i q hi h
      rw [fo]
      refine ih (i + 1) _ (by omega) ?_
      by_cases c : N (153 + i) = nI p ∧ bt mask i = 0 ∧ gok N nl day known i ∧ ¬ gfd N i < q.1
      · have e : gst N nl day known (nI p) mask i q = (gfd N i, nI i) := if_pos c
        rw [e]
        exact Or.inr (Or.inr ⟨i, by omega, rfl, c.2.1⟩)
      · have e : gst N nl day known (nI p) mask i q = q := if_neg c
        rw [e]
        exact h
  refine key nf 0 _ (by omega) ?_
  unfold gin
  by_cases c : bok N nl day p
  · rw [if_pos c]
    exact Or.inr (Or.inl rfl)
  · rw [if_neg c]
    exact Or.inl rfl
/-- with more denied, none is later -/
theorem lg_mono {N : Nat → Int32} {nl : Nat} {day known p m m' : Int32} (hle : ∀ f, f < 24 → bt m' f = 0 → bt m f = 0) (q : Int32 × Int32) : ∀ n, n ≤ 24 → (fo (gst N nl day known p m') n 0 q).1 ≤ (fo (gst N nl day known p m) n 0 q).1 := by
  intro n
  induction n with
  | zero =>
    intro _
    rw [fo, fo]
    exact (fa_le _ _).mpr (Int.le_refl _)
  | succ n ih =>
    intro hn
    have ih := (fa_le _ _).mp (ih (by omega))
    rw [fo_snoc, fo_snoc, Nat.zero_add]
    obtain ⟨A, hA⟩ : ∃ a, a = fo (gst N nl day known p m) n 0 q := ⟨_, rfl⟩
    obtain ⟨A', hA'⟩ : ∃ a, a = fo (gst N nl day known p m') n 0 q := ⟨_, rfl⟩
    rw [← hA, ← hA'] at ih
    rw [← hA, ← hA', fa_le]
    by_cases c : N (153 + n) = p ∧ bt m n = 0 ∧ gok N nl day known n ∧ ¬ gfd N n < A.1
    · have e : gst N nl day known p m n A = (gfd N n, nI n) := if_pos c
      have := c.2.2.2
      rw [fa_lt] at this
      by_cases c' : N (153 + n) = p ∧ bt m' n = 0 ∧ gok N nl day known n ∧ ¬ gfd N n < A'.1
      · have e' : gst N nl day known p m' n A' = (gfd N n, nI n) := if_pos c'
        rw [e, e']
        exact Int.le_refl _
      · have e' : gst N nl day known p m' n A' = A' := if_neg c'
        rw [e, e']
        show A'.1.toInt ≤ (gfd N n).toInt
        omega
    · have e : gst N nl day known p m n A = A := if_neg c
      by_cases c' : N (153 + n) = p ∧ bt m' n = 0 ∧ gok N nl day known n ∧ ¬ gfd N n < A'.1
      · have e' : gst N nl day known p m' n A' = (gfd N n, nI n) := if_pos c'
        rw [e, e']
        have : gfd N n < A.1 := Classical.not_not.mp (fun y => c ⟨c'.1, hle n (by omega) c'.2.1, c'.2.2.1, y⟩)
        rw [fa_lt] at this
        show (gfd N n).toInt ≤ A.1.toInt
        omega
      · have e' : gst N nl day known p m' n A' = A' := if_neg c'
        rw [e, e']
        exact ih
/-- what tells goes on to tell while it isn't denied itself -/
theorem lg_iia {N : Nat → Int32} {nl : Nat} {day known p m m' : Int32} (hle : ∀ f, f < 24 → bt m' f = 0 → bt m f = 0) (q : Int32 × Int32) : ∀ n, n ≤ 24 → (∀ f, f < 24 → (fo (gst N nl day known p m) n 0 q).2 = nI f → bt m' f = 0) → fo (gst N nl day known p m') n 0 q = fo (gst N nl day known p m) n 0 q := by
  intro n
  induction n with
  | zero =>
    intro _ _
    rw [fo, fo]
  | succ n ih =>
    intro hn h
    have mo := (fa_le _ _).mp (lg_mono (N := N) (nl := nl) (day := day) (known := known) (p := p) hle q n (by omega))
    have ih := ih (by omega)
    rw [fo_snoc, Nat.zero_add] at h
    rw [fo_snoc, fo_snoc, Nat.zero_add]
    obtain ⟨A, hA⟩ : ∃ a, a = fo (gst N nl day known p m) n 0 q := ⟨_, rfl⟩
    obtain ⟨A', hA'⟩ : ∃ a, a = fo (gst N nl day known p m') n 0 q := ⟨_, rfl⟩
    rw [← hA, ← hA'] at ih mo
    rw [← hA] at h
    rw [← hA, ← hA']
    by_cases c : N (153 + n) = p ∧ bt m n = 0 ∧ gok N nl day known n ∧ ¬ gfd N n < A.1
    · have e : gst N nl day known p m n A = (gfd N n, nI n) := if_pos c
      rw [e] at h
      have b := h n (by omega) rfl
      have := c.2.2.2
      rw [fa_lt] at this
      have e' : gst N nl day known p m' n A' = (gfd N n, nI n) := if_pos ⟨c.1, b, c.2.2.1, by rw [fa_lt]; omega⟩
      rw [e, e']
    · have e : gst N nl day known p m n A = A := if_neg c
      rw [e] at h
      have eA := ih h
      have e' : gst N nl day known p m' n A' = A' := if_neg (fun y => c ⟨y.1, hle n (by omega) y.2.1, y.2.2.1, by rw [← eA]; exact y.2.2.2⟩)
      rw [e, e', eA]
theorem l_lg4 {σ : gSt} {K : Int32 → Int32 → Int32 → gSt → gO} {nl nf at_ : Nat} {p mask day known : Int32} (hat : at_ < 10) (hl : σ 87 at_ = p) (hC : Col σ (σ 102)) (h2 : σ 17 0 = nI nf) (hb : nf ≤ 24) (hF : RgF (σ 102)) (hG : ∀ f, f < nf → (gok (σ 102) nl day known f ∧ σ 86 f = gfd (σ 102) f) ∨ (¬ gok (σ 102) nl day known f ∧ σ 86 f = -1)) : ∀ (d i n : Nat) (q : Int32 × Int32), i + d = nf → d < n → L4_X7_latestGain (nI at_) mask n (nI i) q.2 q.1 σ K = K (nI nf) (fo (gst (σ 102) nl day known p mask) d i q).2 (fo (gst (σ 102) nl day known p mask) d i q).1 σ := by
  intro d
  induction d with
  | zero =>
    intro i n q hi hn
    obtain ⟨n, rfl⟩ : ∃ k, n = k + 1 := ⟨n - 1, by omega⟩
    have e : i = nf := by omega
    subst e
    rw [L4_X7_latestGain, h2, if_pos (nI_le (Nat.le_refl _) (by omega)), fo]
  | succ d ih =>
    intro i n q hi hn
    obtain ⟨n, rfl⟩ : ∃ k, n = k + 1 := ⟨n - 1, by omega⟩
    have ih' := fun q => ih (i + 1) n q (by omega) (by omega)
    have g19 := hC.get0 19 153 24 (by decide) (show i < 24 by omega)
    have gp := gfd_pos hF (show i < 24 by omega)
    rw [L4_X7_latestGain, h2, if_neg (nle (by omega) (by omega)), gIx_n (by omega) (by omega), gIx_n (by omega) (by omega), nI_tn (show i < 2 ^ 31 by omega), nI_tn (show at_ < 2 ^ 31 by omega), g19, hl, fo]
    by_cases c1 : σ 102 (153 + i) = p
    rotate_left
    · have e : gst (σ 102) nl day known p mask i q = q := if_neg (fun y => c1 y.1)
      rw [e, if_neg c1, gNm_e, nI_1]
      exact ih' q
    rw [if_pos c1]
    by_cases c2 : (mask >>> (nI i &&& 31)) &&& 1 = 0
    rotate_left
    · have e : gst (σ 102) nl day known p mask i q = q := if_neg (fun y => c2 y.2.1)
      rw [e, if_neg c2, gNm_e, nI_1]
      exact ih' q
    rw [if_pos c2, gIx_n (by omega) (by omega)]
    rcases hG i (by omega) with ⟨k, g⟩ | ⟨k, g⟩
    rotate_left
    · have e : gst (σ 102) nl day known p mask i q = q := if_neg (fun y => k y.2.2.1)
      rw [e, g, if_pos rfl, gNm_e, nI_1]
      exact ih' q
    rw [g, if_neg gp.2, gIx_n (by omega) (by omega)]
    by_cases c3 : gfd (σ 102) i < q.1
    · have e : gst (σ 102) nl day known p mask i q = q := if_neg (fun y => y.2.2.2 c3)
      rw [e, if_pos c3, gNm_e, nI_1]
      exact ih' q
    · have e : gst (σ 102) nl day known p mask i q = (gfd (σ 102) i, nI i) := if_pos ⟨c1, c2, k, c3⟩
      rw [e, if_neg c3, gIx_n (by omega) (by omega), gNm_e, gNm_e, nI_1]
      exact ih' (gfd (σ 102) i, nI i)
theorem l_lg28 {σ : gSt} {K : Int32 → Int32 → Int32 → gSt → gO} {nl nf at_ : Nat} {p mask day known : Int32} (hat : at_ < 10) (hl : σ 87 at_ = p) (hC : Col σ (σ 102)) (h2 : σ 17 0 = nI nf) (hb : nf ≤ 24) (hF : RgF (σ 102)) (hG : ∀ f, f < nf → (gok (σ 102) nl day known f ∧ σ 86 f = gfd (σ 102) f) ∨ (¬ gok (σ 102) nl day known f ∧ σ 86 f = -1)) : ∀ (d i n : Nat) (q : Int32 × Int32), i + d = nf → d < n → L28_X7_latestGain (nI at_) mask n (nI i) q.2 q.1 σ K = K (nI nf) (fo (gst (σ 102) nl day known p mask) d i q).2 (fo (gst (σ 102) nl day known p mask) d i q).1 σ := by
  intro d
  induction d with
  | zero =>
    intro i n q hi hn
    obtain ⟨n, rfl⟩ : ∃ k, n = k + 1 := ⟨n - 1, by omega⟩
    have e : i = nf := by omega
    subst e
    rw [L28_X7_latestGain, h2, if_pos (nI_le (Nat.le_refl _) (by omega)), fo]
  | succ d ih =>
    intro i n q hi hn
    obtain ⟨n, rfl⟩ : ∃ k, n = k + 1 := ⟨n - 1, by omega⟩
    have ih' := fun q => ih (i + 1) n q (by omega) (by omega)
    have g19 := hC.get0 19 153 24 (by decide) (show i < 24 by omega)
    have gp := gfd_pos hF (show i < 24 by omega)
    rw [L28_X7_latestGain, h2, if_neg (nle (by omega) (by omega)), gIx_n (by omega) (by omega), gIx_n (by omega) (by omega), nI_tn (show i < 2 ^ 31 by omega), nI_tn (show at_ < 2 ^ 31 by omega), g19, hl, fo]
    by_cases c1 : σ 102 (153 + i) = p
    rotate_left
    · have e : gst (σ 102) nl day known p mask i q = q := if_neg (fun y => c1 y.1)
      rw [e, if_neg c1, gNm_e, nI_1]
      exact ih' q
    rw [if_pos c1]
    by_cases c2 : (mask >>> (nI i &&& 31)) &&& 1 = 0
    rotate_left
    · have e : gst (σ 102) nl day known p mask i q = q := if_neg (fun y => c2 y.2.1)
      rw [e, if_neg c2, gNm_e, nI_1]
      exact ih' q
    rw [if_pos c2, gIx_n (by omega) (by omega)]
    rcases hG i (by omega) with ⟨k, g⟩ | ⟨k, g⟩
    rotate_left
    · have e : gst (σ 102) nl day known p mask i q = q := if_neg (fun y => k y.2.2.1)
      rw [e, g, if_pos rfl, gNm_e, nI_1]
      exact ih' q
    rw [g, if_neg gp.2, gIx_n (by omega) (by omega)]
    by_cases c3 : gfd (σ 102) i < q.1
    · have e : gst (σ 102) nl day known p mask i q = q := if_neg (fun y => y.2.2.2 c3)
      rw [e, if_pos c3, gNm_e, nI_1]
      exact ih' q
    · have e : gst (σ 102) nl day known p mask i q = (gfd (σ 102) i, nI i) := if_pos ⟨c1, c2, k, c3⟩
      rw [e, if_neg c3, gIx_n (by omega) (by omega), gNm_e, gNm_e, nI_1]
      exact ih' (gfd (σ 102) i, nI i)
/-- latestGain over what prepare has laid -/
theorem e7_latestGain {σ : gSt} {nl nf at_ p : Nat} {mask day known : Int32} (hC : Col σ (σ 102)) (h2 : σ 17 0 = nI nf) (hb : nf ≤ 24) (hF : RgF (σ 102)) (hP : RgP (σ 102)) (hG : ∀ f, f < nf → (gok (σ 102) nl day known f ∧ σ 86 f = gfd (σ 102) f) ∨ (¬ gok (σ 102) nl day known f ∧ σ 86 f = -1)) (hat : at_ < 10) (hp : p < 10) (hl : σ 87 at_ = nI p) (hB : (bok (σ 102) nl day p ∧ σ 88 at_ = σ 102 (69 + p)) ∨ (¬ bok (σ 102) nl day p ∧ σ 88 at_ = -1)) : M_X7_latestGain (nI at_) mask σ = some (lg (σ 102) nl nf day known mask p, σ) := by
  unfold M_X7_latestGain lg
  rw [gIx_n (by omega) (by omega), gNm_e, nI_tn (by omega)]
  rcases hB with ⟨c, g⟩ | ⟨c, g⟩
  · have ne : ¬ σ 102 (69 + p) = -1 := fun e => by
      have := (hP p hp).2.2.1
      rw [e] at this
      exact absurd this (by decide)
    have e : gin (σ 102) nl day p = (σ 102 (69 + p), -1) := if_pos c
    have L := l_lg4 (K := fun _ z25 _ σ27 => some (z25, σ27)) (mask := mask) hat hl hC h2 hb hF hG nf 0 gFu (σ 102 (69 + p), -1) (by omega) (fu _ (by omega))
    rw [nI_0] at L
    rw [g, if_neg ne, e]
    exact L
  · have e : gin (σ 102) nl day p = (-1, -2) := if_neg c
    have L := l_lg28 (K := fun _ z49 _ σ51 => some (z49, σ51)) (mask := mask) hat hl hC h2 hb hF hG nf 0 gFu (-1, -2) (by omega) (fu _ (by omega))
    rw [nI_0] at L
    rw [g, if_pos rfl, e]
    exact L
/-- parishBy -/
theorem e7_parishBy {σ : gSt} {nf at_ p : Nat} {g : Int32} (hC : Col σ (σ 102)) (h2 : σ 17 0 = nI nf) (hb : nf ≤ 24) (hat : at_ < 10) (hp : p < 10) (hl : σ 87 at_ = nI p) (hg : g = -2 ∨ g = -1 ∨ ∃ f, f < nf ∧ g = nI f) : M_X7_parishBy (nI at_) g σ = some (pb (σ 102) p g, σ) := by
  unfold M_X7_parishBy pb
  rcases hg with rfl | rfl | ⟨f, hf, rfl⟩
  · rw [if_neg (show ¬ ((-2 : Int32) = -1) by decide), if_neg (show ¬ ((-2 : Int32) = -1) by decide), if_pos rfl, e1_has, gBd_s, if_neg (show ¬ ((0 : Int32) ≤ -2 ∧ -2 < σ 17 0) from fun y => absurd y.1 (by decide)), if_pos (show (0 : Int32) = 0 from rfl)]
  · rw [if_pos rfl, if_pos rfl, gIx_n (by omega) (by omega), nI_tn (show at_ < 2 ^ 31 by omega), hl, gIx_n (by omega) (by omega), nI_tn (show p < 2 ^ 31 by omega), hC.get0 13 59 10 (by decide) hp]
  · have v := ix_ok hf (by omega)
    rw [if_neg (nIm1 (by omega)), if_neg (nIm1 (by omega)), if_neg (nIm2 (by omega)), e1_has, gBd_s, h2, if_pos (show 0 ≤ nI f ∧ nI f < nI nf from ⟨v.1, v.2.1⟩), if_neg (show ¬ (1 : Int32) = 0 by decide), gIx_n (by omega) (by omega), nI_tn (by omega), hC.get0 20 177 24 (by decide) (show f < 24 by omega)]
theorem l_ref4 {σ : gSt} {K : Int32 → Int32 → Int32 → gSt → gO} {nl nf : Nat} {x2 p day known : Int32} (h3 : σ 102 3 = nI nl) (hb3 : nl ≤ 12) (h2 : σ 102 2 = nI nf) (hb : nf ≤ 24) : ∀ (d i n : Nat) (q : Int32 × Int32), i + d = nf → d < n → L4_X10_ownOf x2 p day known n (nI i) q.1 q.2 σ K = K (nI nf) (fo (ost (σ 102) nl day known p (σ 101 7)) d i q).1 (fo (ost (σ 102) nl day known p (σ 101 7)) d i q).2 σ := by
  intro d
  induction d with
  | zero =>
    intro i n q hi hn
    obtain ⟨n, rfl⟩ : ∃ k, n = k + 1 := ⟨n - 1, by omega⟩
    have e : i = nf := by omega
    subst e
    rw [L4_X10_ownOf, gIx_c2, tn2, h2, if_pos (nI_le (Nat.le_refl _) (by omega)), fo]
  | succ d ih =>
    intro i n q hi hn
    obtain ⟨n, rfl⟩ : ∃ k, n = k + 1 := ⟨n - 1, by omega⟩
    have ih' := fun q => ih (i + 1) n q (by omega) (by omega)
    rw [L4_X10_ownOf, gIx_c2, tn2, h2, if_neg (nle (by omega) (by omega)), li_153, li_273, li_129, li_249, li_225, li_177, li_201, gIx_n (by omega) (by omega), nI_tn (by omega), fo]
    by_cases c1 : σ 102 (153 + i) = p
    rotate_left
    · have e : ost (σ 102) nl day known p (σ 101 7) i q = q := if_neg (fun y => c1 y.1)
      rw [e, if_neg c1, gNm_e, nI_1]
      exact ih' q
    rw [if_pos c1, gIx_n (by omega) (by omega), nI_tn (by omega)]
    by_cases c4 : known < σ 102 (273 + i)
    · have e : ost (σ 102) nl day known p (σ 101 7) i q = q := if_neg (fun y => y.2.2.1.1 c4)
      rw [e, if_pos c4, gNm_e, nI_1]
      exact ih' q
    rw [if_neg c4]
    by_cases c2 : (σ 101 7 >>> (nI i &&& 31)) &&& 1 = 1
    · have e : ost (σ 102) nl day known p (σ 101 7) i q = q := if_neg (fun y => by have := y.2.1; rw [c2] at this; exact absurd this (by decide))
      rw [e, if_pos c2, gNm_e, nI_1]
      exact ih' q
    have c2' : (σ 101 7 >>> (nI i &&& 31)) &&& 1 = 0 := (bit01 _).resolve_right c2
    rw [if_neg c2, gIx_n (by omega) (by omega), nI_tn (by omega)]
    by_cases kd : σ 102 (129 + i) = 0
    · have gd : gfd (σ 102) i = σ 102 (249 + i) := if_pos kd
      rw [if_pos kd, gIx_n (by omega) (by omega), gNm_e, gIx_n (by omega) (by omega), gIx_n (by omega) (by omega), gNm_e, nI_tn (by omega), nI_tn (by omega)]
      by_cases c5 : day < σ 102 (249 + i)
      · have e : ost (σ 102) nl day known p (σ 101 7) i q = q := if_neg (fun y => y.2.2.1.2.2 (by rw [gd]; exact c5))
        rw [e, if_pos c5, gNm_e, nI_1]
        exact ih' q
      rw [if_neg c5]
      by_cases c6 : σ 102 (249 + i) < q.1
      · have e : ost (σ 102) nl day known p (σ 101 7) i q = q := if_neg (fun y => y.2.2.2 (by rw [gd]; exact c6))
        rw [e, if_pos c6, gNm_e, nI_1]
        exact ih' q
      rw [if_neg c6]
      rcases e10_hasLaw 1 (σ 102 (249 + i)) (σ 102 (249 + i) - σ 102 (225 + i) + 1) h3 hb3 with ⟨c, r⟩ | ⟨c, r⟩
      · have e : ost (σ 102) nl day known p (σ 101 7) i q = (gfd (σ 102) i, σ 102 (177 + i)) := if_pos ⟨c1, c2', ⟨c4, Or.inl ⟨kd, c⟩, by rw [gd]; exact c5⟩, by rw [gd]; exact c6⟩
        rw [e, r, gBd_s, if_neg (show ¬ (1 : Int32) = 0 by decide), gIx_n (by omega) (by omega), gNm_e, gNm_e, nI_1, nI_tn (by omega), gd]
        exact ih' (σ 102 (249 + i), σ 102 (177 + i))
      · have e : ost (σ 102) nl day known p (σ 101 7) i q = q := if_neg (fun y => y.2.2.1.2.1.elim (fun z => c z.2) (fun z => z.1 kd))
        rw [e, r, gBd_s, if_pos (show (0 : Int32) = 0 from rfl), gNm_e, nI_1]
        exact ih' q
    · have gd : gfd (σ 102) i = σ 102 (225 + i) := if_neg kd
      rw [if_neg kd, gIx_n (by omega) (by omega), gNm_e, gIx_n (by omega) (by omega), gNm_e, nI_tn (by omega), nI_tn (by omega)]
      by_cases c5 : day < σ 102 (225 + i)
      · have e : ost (σ 102) nl day known p (σ 101 7) i q = q := if_neg (fun y => y.2.2.1.2.2 (by rw [gd]; exact c5))
        rw [e, if_pos c5, gNm_e, nI_1]
        exact ih' q
      rw [if_neg c5]
      by_cases c6 : σ 102 (225 + i) < q.1
      · have e : ost (σ 102) nl day known p (σ 101 7) i q = q := if_neg (fun y => y.2.2.2 (by rw [gd]; exact c6))
        rw [e, if_pos c6, gNm_e, nI_1]
        exact ih' q
      rw [if_neg c6]
      rcases e10_hasLaw 2 (σ 102 (225 + i)) (σ 102 (201 + i)) h3 hb3 with ⟨c, r⟩ | ⟨c, r⟩
      · have e : ost (σ 102) nl day known p (σ 101 7) i q = (gfd (σ 102) i, σ 102 (177 + i)) := if_pos ⟨c1, c2', ⟨c4, Or.inr ⟨kd, c⟩, by rw [gd]; exact c5⟩, by rw [gd]; exact c6⟩
        rw [e, r, gBd_s, if_neg (show ¬ (1 : Int32) = 0 by decide), gIx_n (by omega) (by omega), gNm_e, gNm_e, nI_1, nI_tn (by omega), gd]
        exact ih' (σ 102 (225 + i), σ 102 (177 + i))
      · have e : ost (σ 102) nl day known p (σ 101 7) i q = q := if_neg (fun y => y.2.2.1.2.1.elim (fun z => kd z.1) (fun z => c z.2))
        rw [e, r, gBd_s, if_pos (show (0 : Int32) = 0 from rfl), gNm_e, nI_1]
        exact ih' q
theorem l_ref61 {σ : gSt} {K : Int32 → Int32 → Int32 → gSt → gO} {nl nf : Nat} {x2 p day known : Int32} (h3 : σ 102 3 = nI nl) (hb3 : nl ≤ 12) (h2 : σ 102 2 = nI nf) (hb : nf ≤ 24) : ∀ (d i n : Nat) (q : Int32 × Int32), i + d = nf → d < n → L61_X10_ownOf x2 p day known n (nI i) q.1 q.2 σ K = K (nI nf) (fo (ost (σ 102) nl day known p (σ 101 7)) d i q).1 (fo (ost (σ 102) nl day known p (σ 101 7)) d i q).2 σ := by
  intro d
  induction d with
  | zero =>
    intro i n q hi hn
    obtain ⟨n, rfl⟩ : ∃ k, n = k + 1 := ⟨n - 1, by omega⟩
    have e : i = nf := by omega
    subst e
    rw [L61_X10_ownOf, gIx_c2, tn2, h2, if_pos (nI_le (Nat.le_refl _) (by omega)), fo]
  | succ d ih =>
    intro i n q hi hn
    obtain ⟨n, rfl⟩ : ∃ k, n = k + 1 := ⟨n - 1, by omega⟩
    have ih' := fun q => ih (i + 1) n q (by omega) (by omega)
    rw [L61_X10_ownOf, gIx_c2, tn2, h2, if_neg (nle (by omega) (by omega)), li_153, li_273, li_129, li_249, li_225, li_177, li_201, gIx_n (by omega) (by omega), nI_tn (by omega), fo]
    by_cases c1 : σ 102 (153 + i) = p
    rotate_left
    · have e : ost (σ 102) nl day known p (σ 101 7) i q = q := if_neg (fun y => c1 y.1)
      rw [e, if_neg c1, gNm_e, nI_1]
      exact ih' q
    rw [if_pos c1, gIx_n (by omega) (by omega), nI_tn (by omega)]
    by_cases c4 : known < σ 102 (273 + i)
    · have e : ost (σ 102) nl day known p (σ 101 7) i q = q := if_neg (fun y => y.2.2.1.1 c4)
      rw [e, if_pos c4, gNm_e, nI_1]
      exact ih' q
    rw [if_neg c4]
    by_cases c2 : (σ 101 7 >>> (nI i &&& 31)) &&& 1 = 1
    · have e : ost (σ 102) nl day known p (σ 101 7) i q = q := if_neg (fun y => by have := y.2.1; rw [c2] at this; exact absurd this (by decide))
      rw [e, if_pos c2, gNm_e, nI_1]
      exact ih' q
    have c2' : (σ 101 7 >>> (nI i &&& 31)) &&& 1 = 0 := (bit01 _).resolve_right c2
    rw [if_neg c2, gIx_n (by omega) (by omega), nI_tn (by omega)]
    by_cases kd : σ 102 (129 + i) = 0
    · have gd : gfd (σ 102) i = σ 102 (249 + i) := if_pos kd
      rw [if_pos kd, gIx_n (by omega) (by omega), gNm_e, gIx_n (by omega) (by omega), gIx_n (by omega) (by omega), gNm_e, nI_tn (by omega), nI_tn (by omega)]
      by_cases c5 : day < σ 102 (249 + i)
      · have e : ost (σ 102) nl day known p (σ 101 7) i q = q := if_neg (fun y => y.2.2.1.2.2 (by rw [gd]; exact c5))
        rw [e, if_pos c5, gNm_e, nI_1]
        exact ih' q
      rw [if_neg c5]
      by_cases c6 : σ 102 (249 + i) < q.1
      · have e : ost (σ 102) nl day known p (σ 101 7) i q = q := if_neg (fun y => y.2.2.2 (by rw [gd]; exact c6))
        rw [e, if_pos c6, gNm_e, nI_1]
        exact ih' q
      rw [if_neg c6]
      rcases e10_hasLaw 1 (σ 102 (249 + i)) (σ 102 (249 + i) - σ 102 (225 + i) + 1) h3 hb3 with ⟨c, r⟩ | ⟨c, r⟩
      · have e : ost (σ 102) nl day known p (σ 101 7) i q = (gfd (σ 102) i, σ 102 (177 + i)) := if_pos ⟨c1, c2', ⟨c4, Or.inl ⟨kd, c⟩, by rw [gd]; exact c5⟩, by rw [gd]; exact c6⟩
        rw [e, r, gBd_s, if_neg (show ¬ (1 : Int32) = 0 by decide), gIx_n (by omega) (by omega), gNm_e, gNm_e, nI_1, nI_tn (by omega), gd]
        exact ih' (σ 102 (249 + i), σ 102 (177 + i))
      · have e : ost (σ 102) nl day known p (σ 101 7) i q = q := if_neg (fun y => y.2.2.1.2.1.elim (fun z => c z.2) (fun z => z.1 kd))
        rw [e, r, gBd_s, if_pos (show (0 : Int32) = 0 from rfl), gNm_e, nI_1]
        exact ih' q
    · have gd : gfd (σ 102) i = σ 102 (225 + i) := if_neg kd
      rw [if_neg kd, gIx_n (by omega) (by omega), gNm_e, gIx_n (by omega) (by omega), gNm_e, nI_tn (by omega), nI_tn (by omega)]
      by_cases c5 : day < σ 102 (225 + i)
      · have e : ost (σ 102) nl day known p (σ 101 7) i q = q := if_neg (fun y => y.2.2.1.2.2 (by rw [gd]; exact c5))
        rw [e, if_pos c5, gNm_e, nI_1]
        exact ih' q
      rw [if_neg c5]
      by_cases c6 : σ 102 (225 + i) < q.1
      · have e : ost (σ 102) nl day known p (σ 101 7) i q = q := if_neg (fun y => y.2.2.2 (by rw [gd]; exact c6))
        rw [e, if_pos c6, gNm_e, nI_1]
        exact ih' q
      rw [if_neg c6]
      rcases e10_hasLaw 2 (σ 102 (225 + i)) (σ 102 (201 + i)) h3 hb3 with ⟨c, r⟩ | ⟨c, r⟩
      · have e : ost (σ 102) nl day known p (σ 101 7) i q = (gfd (σ 102) i, σ 102 (177 + i)) := if_pos ⟨c1, c2', ⟨c4, Or.inr ⟨kd, c⟩, by rw [gd]; exact c5⟩, by rw [gd]; exact c6⟩
        rw [e, r, gBd_s, if_neg (show ¬ (1 : Int32) = 0 by decide), gIx_n (by omega) (by omega), gNm_e, gNm_e, nI_1, nI_tn (by omega), gd]
        exact ih' (σ 102 (225 + i), σ 102 (177 + i))
      · have e : ost (σ 102) nl day known p (σ 101 7) i q = q := if_neg (fun y => y.2.2.1.2.1.elim (fun z => kd z.1) (fun z => c z.2))
        rw [e, r, gBd_s, if_pos (show (0 : Int32) = 0 from rfl), gNm_e, nI_1]
        exact ih' q
theorem l_ref117 {σ : gSt} {K : Int32 → Int32 → Int32 → gSt → gO} {nl nf : Nat} {x2 p day known : Int32} (h3 : σ 102 3 = nI nl) (hb3 : nl ≤ 12) (h2 : σ 102 2 = nI nf) (hb : nf ≤ 24) : ∀ (d i n : Nat) (q : Int32 × Int32), i + d = nf → d < n → L117_X10_ownOf x2 p day known n (nI i) q.1 q.2 σ K = K (nI nf) (fo (ost (σ 102) nl day known p (σ 101 7)) d i q).1 (fo (ost (σ 102) nl day known p (σ 101 7)) d i q).2 σ := by
  intro d
  induction d with
  | zero =>
    intro i n q hi hn
    obtain ⟨n, rfl⟩ : ∃ k, n = k + 1 := ⟨n - 1, by omega⟩
    have e : i = nf := by omega
    subst e
    rw [L117_X10_ownOf, gIx_c2, tn2, h2, if_pos (nI_le (Nat.le_refl _) (by omega)), fo]
  | succ d ih =>
    intro i n q hi hn
    obtain ⟨n, rfl⟩ : ∃ k, n = k + 1 := ⟨n - 1, by omega⟩
    have ih' := fun q => ih (i + 1) n q (by omega) (by omega)
    rw [L117_X10_ownOf, gIx_c2, tn2, h2, if_neg (nle (by omega) (by omega)), li_153, li_273, li_129, li_249, li_225, li_177, li_201, gIx_n (by omega) (by omega), nI_tn (by omega), fo]
    by_cases c1 : σ 102 (153 + i) = p
    rotate_left
    · have e : ost (σ 102) nl day known p (σ 101 7) i q = q := if_neg (fun y => c1 y.1)
      rw [e, if_neg c1, gNm_e, nI_1]
      exact ih' q
    rw [if_pos c1, gIx_n (by omega) (by omega), nI_tn (by omega)]
    by_cases c4 : known < σ 102 (273 + i)
    · have e : ost (σ 102) nl day known p (σ 101 7) i q = q := if_neg (fun y => y.2.2.1.1 c4)
      rw [e, if_pos c4, gNm_e, nI_1]
      exact ih' q
    rw [if_neg c4]
    by_cases c2 : (σ 101 7 >>> (nI i &&& 31)) &&& 1 = 1
    · have e : ost (σ 102) nl day known p (σ 101 7) i q = q := if_neg (fun y => by have := y.2.1; rw [c2] at this; exact absurd this (by decide))
      rw [e, if_pos c2, gNm_e, nI_1]
      exact ih' q
    have c2' : (σ 101 7 >>> (nI i &&& 31)) &&& 1 = 0 := (bit01 _).resolve_right c2
    rw [if_neg c2, gIx_n (by omega) (by omega), nI_tn (by omega)]
    by_cases kd : σ 102 (129 + i) = 0
    · have gd : gfd (σ 102) i = σ 102 (249 + i) := if_pos kd
      rw [if_pos kd, gIx_n (by omega) (by omega), gNm_e, gIx_n (by omega) (by omega), gIx_n (by omega) (by omega), gNm_e, nI_tn (by omega), nI_tn (by omega)]
      by_cases c5 : day < σ 102 (249 + i)
      · have e : ost (σ 102) nl day known p (σ 101 7) i q = q := if_neg (fun y => y.2.2.1.2.2 (by rw [gd]; exact c5))
        rw [e, if_pos c5, gNm_e, nI_1]
        exact ih' q
      rw [if_neg c5]
      by_cases c6 : σ 102 (249 + i) < q.1
      · have e : ost (σ 102) nl day known p (σ 101 7) i q = q := if_neg (fun y => y.2.2.2 (by rw [gd]; exact c6))
        rw [e, if_pos c6, gNm_e, nI_1]
        exact ih' q
      rw [if_neg c6]
      rcases e10_hasLaw 1 (σ 102 (249 + i)) (σ 102 (249 + i) - σ 102 (225 + i) + 1) h3 hb3 with ⟨c, r⟩ | ⟨c, r⟩
      · have e : ost (σ 102) nl day known p (σ 101 7) i q = (gfd (σ 102) i, σ 102 (177 + i)) := if_pos ⟨c1, c2', ⟨c4, Or.inl ⟨kd, c⟩, by rw [gd]; exact c5⟩, by rw [gd]; exact c6⟩
        rw [e, r, gBd_s, if_neg (show ¬ (1 : Int32) = 0 by decide), gIx_n (by omega) (by omega), gNm_e, gNm_e, nI_1, nI_tn (by omega), gd]
        exact ih' (σ 102 (249 + i), σ 102 (177 + i))
      · have e : ost (σ 102) nl day known p (σ 101 7) i q = q := if_neg (fun y => y.2.2.1.2.1.elim (fun z => c z.2) (fun z => z.1 kd))
        rw [e, r, gBd_s, if_pos (show (0 : Int32) = 0 from rfl), gNm_e, nI_1]
        exact ih' q
    · have gd : gfd (σ 102) i = σ 102 (225 + i) := if_neg kd
      rw [if_neg kd, gIx_n (by omega) (by omega), gNm_e, gIx_n (by omega) (by omega), gNm_e, nI_tn (by omega), nI_tn (by omega)]
      by_cases c5 : day < σ 102 (225 + i)
      · have e : ost (σ 102) nl day known p (σ 101 7) i q = q := if_neg (fun y => y.2.2.1.2.2 (by rw [gd]; exact c5))
        rw [e, if_pos c5, gNm_e, nI_1]
        exact ih' q
      rw [if_neg c5]
      by_cases c6 : σ 102 (225 + i) < q.1
      · have e : ost (σ 102) nl day known p (σ 101 7) i q = q := if_neg (fun y => y.2.2.2 (by rw [gd]; exact c6))
        rw [e, if_pos c6, gNm_e, nI_1]
        exact ih' q
      rw [if_neg c6]
      rcases e10_hasLaw 2 (σ 102 (225 + i)) (σ 102 (201 + i)) h3 hb3 with ⟨c, r⟩ | ⟨c, r⟩
      · have e : ost (σ 102) nl day known p (σ 101 7) i q = (gfd (σ 102) i, σ 102 (177 + i)) := if_pos ⟨c1, c2', ⟨c4, Or.inr ⟨kd, c⟩, by rw [gd]; exact c5⟩, by rw [gd]; exact c6⟩
        rw [e, r, gBd_s, if_neg (show ¬ (1 : Int32) = 0 by decide), gIx_n (by omega) (by omega), gNm_e, gNm_e, nI_1, nI_tn (by omega), gd]
        exact ih' (σ 102 (225 + i), σ 102 (177 + i))
      · have e : ost (σ 102) nl day known p (σ 101 7) i q = q := if_neg (fun y => y.2.2.1.2.1.elim (fun z => kd z.1) (fun z => c z.2))
        rw [e, r, gBd_s, if_pos (show (0 : Int32) = 0 from rfl), gNm_e, nI_1]
        exact ih' q
theorem e10_ownOf {σ : gSt} {nl nf p : Nat} (day known : Int32) (h3 : σ 102 3 = nI nl) (hb3 : nl ≤ 12) (h2 : σ 102 2 = nI nf) (hb : nf ≤ 24) (hp : p < 10) : M_X10_ownOf (nI p) day known σ = some (own (σ 102) nl nf day known (σ 101 7) p, σ) := by
  unfold M_X10_ownOf own
  rw [li_69, li_59, gIx_n (by omega) (by omega), gNm_e, nI_tn (by omega)]
  by_cases c : day < σ 102 (69 + p)
  · have e : oin (σ 102) nl day p = (-1, -1) := if_neg (fun y => y.1 c)
    have L := l_ref4 (K := fun _ _ z56 σ57 => some (z56, σ57)) (x2 := σ 102 (69 + p)) (p := nI p) (day := day) (known := known) h3 hb3 h2 hb nf 0 gFu (-1, -1) (by omega) (fu _ (by omega))
    rw [nI_0] at L
    rw [if_pos c, e]
    exact L
  rw [if_neg c]
  rcases e10_hasLaw 0 (σ 102 (69 + p)) 0 h3 hb3 with ⟨c2, q⟩ | ⟨c2, q⟩
  · have e : oin (σ 102) nl day p = (σ 102 (69 + p), σ 102 (59 + p)) := if_pos ⟨c, c2⟩
    have L := l_ref117 (K := fun _ _ z169 σ170 => some (z169, σ170)) (x2 := σ 102 (69 + p)) (p := nI p) (day := day) (known := known) h3 hb3 h2 hb nf 0 gFu (σ 102 (69 + p), σ 102 (59 + p)) (by omega) (fu _ (by omega))
    rw [nI_0] at L
    rw [q, gBd_s, if_neg (show ¬ (1 : Int32) = 0 by decide), gIx_n (by omega) (by omega), gNm_e, nI_tn (by omega), e]
    exact L
  · have e : oin (σ 102) nl day p = (-1, -1) := if_neg (fun y => c2 y.2)
    have L := l_ref61 (K := fun _ _ z113 σ114 => some (z113, σ114)) (x2 := σ 102 (69 + p)) (p := nI p) (day := day) (known := known) h3 hb3 h2 hb nf 0 gFu (-1, -1) (by omega) (fu _ (by omega))
    rw [nI_0] at L
    rw [q, gBd_s, if_pos (show (0 : Int32) = 0 from rfl), e]
    exact L
/-- one's own settlement is a parish, or -1 -/
theorem own_rng {N : Nat → Int32} (nl nf : Nat) (day known mask : Int32) {p : Nat} (hp : p < 10) (hb : nf ≤ 24) (hF : RgF N) (hP : RgP N) : own N nl nf day known mask p = -1 ∨ ∃ k, k ≤ 5 ∧ own N nl nf day known mask p = nI k := by
  have key : ∀ (d i : Nat) (q : Int32 × Int32), i + d ≤ 24 → (q.2 = -1 ∨ ∃ k, k ≤ 5 ∧ q.2 = nI k) → ((fo (ost N nl day known (nI p) mask) d i q).2 = -1 ∨ ∃ k, k ≤ 5 ∧ (fo (ost N nl day known (nI p) mask) d i q).2 = nI k) := by
    intro d
    induction d with
    | zero => intro i q _ h; exact h
    | succ d ih =>
      intro i q hi h
      rw [fo]
      refine ih (i + 1) _ (by omega) ?_
      unfold ost
      by_cases c : N (153 + i) = nI p ∧ ((mask >>> (nI i &&& 31)) &&& 1) = 0 ∧ gok N nl day known i ∧ ¬ gfd N i < q.1
      · rw [if_pos c]
        right
        have := (hF i (by omega)).2.1
        obtain ⟨k, hk, e⟩ := nI_of2 (x := N (177 + i)) (M := 5) (n := 5) rfl (by rw [fa_lt]; have := (fa_le _ _).mp this.1; simp at this ⊢; omega) this.2
        exact ⟨k, hk, e⟩
      · rw [if_neg c]
        exact h
  refine key nf 0 _ (by omega) ?_
  unfold oin
  by_cases c : bok N nl day p
  · rw [if_pos c]
    right
    have := (hP p hp).2.1
    obtain ⟨k, hk, e⟩ := nI_of2 (x := N (59 + p)) (M := 5) (n := 5) rfl (by rw [fa_lt]; have := (fa_le _ _).mp this.1; simp at this ⊢; omega) this.2
    exact ⟨k, hk, e⟩
  · rw [if_neg c]
    exact Or.inl rfl
theorem own_none {N : Nat → Int32} (nl nf : Nat) (day known mask : Int32) {p : Nat} (hp : p < 10) (hb : nf ≤ 24) (hF : RgF N) (hP : RgP N) : own N nl nf day known mask p = -1 ↔ lg N nl nf day known mask p = -2 := by
  rw [own_lg nl nf day known mask p hb]
  have ge : ∀ x : Int32, 0 ≤ x → ¬ x = -1 := fun x h e => by rw [e] at h; exact absurd h (by decide)
  rcases lg_rng (N := N) nl nf day known mask p with e | e | ⟨f, hf, e, _⟩
  · rw [e]
    exact ⟨fun _ => rfl, fun _ => rfl⟩
  · rw [e]
    exact ⟨fun y => absurd y (ge _ (hP p hp).2.1.1), fun y => absurd y (by decide)⟩
  · rw [e, pb_f (by omega)]
    exact ⟨fun y => absurd y (ge _ (hF f (by omega)).2.1.1), fun y => absurd y (nIm2 (by omega))⟩
