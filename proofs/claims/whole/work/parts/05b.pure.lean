/-! ===== the pure part: numbers, columns, the relation ===== -/
theorem gBd_s {α : Type} {r : Int32} {u : gSt} {K : Int32 → gSt → Option α} : gBd (some (r, u)) K = K r u := rfl
theorem gNm_e {α β : Type} {x : α} {K : α → β} : gNm x K = K x := rfl
theorem gGd_t {α : Type} {c : Prop} [Decidable c] {X : Option α} (h : c) : gGd c X = X := if_pos h
theorem gIx_n {α : Type} {n j : Nat} {X : Option α} (h : j < n) (hn : n < 2 ^ 31) : gIx n (nI j) X = X := if_neg (nI_in h hn)
theorem nI_tn {j : Nat} (h : j < 2 ^ 31) : (nI j).toNatClampNeg = j := nI_clamp h
theorem li_add (k m : Nat) : (OfNat.ofNat k : Int32) + nI m = nI (k + m) := by rw [fa_lit, nI_add]
theorem li_mul (k m : Nat) : (OfNat.ofNat k : Int32) * nI m = nI (k * m) := by rw [fa_lit, pk_mul]
theorem li_add' (k m : Nat) : nI m + (OfNat.ofNat k : Int32) = nI (m + k) := by rw [fa_lit, nI_add]
theorem nI_p1 (n : Nat) : nI (n + 1) - 1 = nI n := nI_pred n
theorem gUp_n {σ : gSt} {k j k' : Nat} {v : Int32} (h : k' ≠ k) : gUp σ k j v k' = σ k' := gRow_n h
theorem gUp_s {σ : gSt} {k j : Nat} {v : Int32} : gUp σ k j v k = upd (σ k) j v := gRow_s
theorem upd_s {f : Nat → Int32} {j : Nat} {v : Int32} : upd f j v j = v := if_pos rfl
theorem upd_n {f : Nat → Int32} {j j' : Nat} {v : Int32} (h : j' ≠ j) : upd f j v j' = f j' := if_neg h
theorem gIx_c0 {α : Type} {X : Option α} : gIx 549 0 X = X := if_neg (by decide)
theorem gIx_c1 {α : Type} {X : Option α} : gIx 549 1 X = X := if_neg (by decide)
theorem gIx_c2 {α : Type} {X : Option α} : gIx 549 2 X = X := if_neg (by decide)
theorem gIx_c3 {α : Type} {X : Option α} : gIx 549 3 X = X := if_neg (by decide)
theorem gIx_c4 {α : Type} {X : Option α} : gIx 549 4 X = X := if_neg (by decide)
theorem gIx_c5 {α : Type} {X : Option α} : gIx 549 5 X = X := if_neg (by decide)
theorem gIx_c6 {α : Type} {X : Option α} : gIx 549 6 X = X := if_neg (by decide)
theorem tn0 : (0 : Int32).toNatClampNeg = 0 := by decide
theorem tn1 : (1 : Int32).toNatClampNeg = 1 := by decide
theorem tn2 : (2 : Int32).toNatClampNeg = 2 := by decide
theorem tn3 : (3 : Int32).toNatClampNeg = 3 := by decide
theorem tn4 : (4 : Int32).toNatClampNeg = 4 := by decide
theorem tn5 : (5 : Int32).toNatClampNeg = 5 := by decide
theorem tn6 : (6 : Int32).toNatClampNeg = 6 := by decide
/-- an index is good, or not -/
theorem ix_or (a : Int32) {n : Nat} (hn : n < 2 ^ 31) : (∃ j, j < n ∧ a = nI j) ∨ ¬ (0 ≤ a ∧ a < nI n) := by
  by_cases h : 0 ≤ a ∧ a < nI n
  · left
    obtain ⟨h1, h2⟩ := h
    rw [fa_le] at h1
    rw [fa_lt, nI_toInt hn] at h2
    obtain ⟨j, hj, rfl⟩ := nI_of (x := a) (by rw [fa_lt]; simp at h1 ⊢; omega)
    rw [nI_toInt hj] at h2
    exact ⟨j, by omega, rfl⟩
  · exact Or.inr h
/-! ===== small methods, as they answer ===== -/
abbrev gF (σ : gSt) : gSt := gUp σ 0 5 (σ 0 5 + 1)
abbrev gFm (σ : gSt) : gSt := gUp σ 101 3 (σ 101 3 + 1)
theorem e9_within (a b c : Int32) (σ : gSt) : M_X9_within a b c σ = some (if b ≤ a ∧ a ≤ c then 1 else 0, σ) := by
  unfold M_X9_within
  by_cases h1 : a < b <;> by_cases h2 : c < a <;> simp only [h1, h2, if_true, if_false] <;> simp [fa_le, fa_lt] at h1 h2 ⊢ <;> omega
theorem e10_within (a b c : Int32) (σ : gSt) : M_X10_within a b c σ = some (if b ≤ a ∧ a ≤ c then 1 else 0, σ) := by
  unfold M_X10_within
  by_cases h1 : a < b <;> by_cases h2 : c < a <;> simp only [h1, h2, if_true, if_false] <;> simp [fa_le, fa_lt] at h1 h2 ⊢ <;> omega
theorem bz {c : Prop} [Decidable c] : (if c then (1 : Int32) else 0) = 0 ∨ (if c then (1 : Int32) else 0) = 1 := by
  by_cases h : c <;> simp [h]
theorem bz0 {c : Prop} [Decidable c] : (if c then (1 : Int32) else 0) = 0 ↔ ¬ c := by
  by_cases h : c <;> simp [h]
theorem e9_isDay (a : Int32) (σ : gSt) : M_X9_isDay a σ = some (if 0 ≤ a ∧ a ≤ 9999 then 1 else 0, σ) := by
  unfold M_X9_isDay
  rw [e9_within, gBd_s, gGd_t bz]
theorem e10_isDay (a : Int32) (σ : gSt) : M_X10_isDay a σ = some (if 0 ≤ a ∧ a ≤ 9999 then 1 else 0, σ) := by
  unfold M_X10_isDay
  rw [e10_within, gBd_s, gGd_t bz]
theorem e9_isWeek (a : Int32) (σ : gSt) : M_X9_isWeek a σ = some (if 0 ≤ a ∧ a ≤ 59 then 1 else 0, σ) := by
  unfold M_X9_isWeek
  rw [e9_within, gBd_s, gGd_t bz]
theorem e10_isWeek (a : Int32) (σ : gSt) : M_X10_isWeek a σ = some (if 0 ≤ a ∧ a ≤ 59 then 1 else 0, σ) := by
  unfold M_X10_isWeek
  rw [e10_within, gBd_s, gGd_t bz]
theorem e9_isSheet (a : Int32) (σ : gSt) : M_X9_isSheet a σ = some (if 0 ≤ a ∧ a ≤ 3 then 1 else 0, σ) := by
  unfold M_X9_isSheet
  rw [e9_within, gBd_s, gGd_t bz]
theorem e10_isSheet (a : Int32) (σ : gSt) : M_X10_isSheet a σ = some (if 0 ≤ a ∧ a ≤ 3 then 1 else 0, σ) := by
  unfold M_X10_isSheet
  rw [e10_within, gBd_s, gGd_t bz]
theorem e9_finding (a : Int32) (σ : gSt) : M_X9_finding a σ = some (a, gF σ) := rfl
theorem e10_finding (a : Int32) (σ : gSt) : M_X10_finding a σ = some (a, gFm σ) := rfl
theorem hs {a b : Int32} {σ : gSt} : (if a < 0 then some ((0 : Int32), σ) else if b ≤ a then some (0, σ) else some (1, σ)) = some (if 0 ≤ a ∧ a < b then (1 : Int32) else 0, σ) := by
  by_cases h1 : a < 0 <;> by_cases h2 : b ≤ a <;> simp only [h1, h2, if_true, if_false] <;> simp [fa_le, fa_lt] at h1 h2 ⊢ <;> omega
theorem e4_has (a : Int32) (σ : gSt) : M_X4_has a σ = some (if 0 ≤ a ∧ a < σ 2 0 then 1 else 0, σ) := hs
theorem e5_has (a : Int32) (σ : gSt) : M_X5_has a σ = some (if 0 ≤ a ∧ a < σ 11 0 then 1 else 0, σ) := hs
theorem e1_has (a : Int32) (σ : gSt) : M_X1_has a σ = some (if 0 ≤ a ∧ a < σ 17 0 then 1 else 0, σ) := hs
theorem e2_has (a : Int32) (σ : gSt) : M_X2_has a σ = some (if 0 ≤ a ∧ a < σ 26 0 then 1 else 0, σ) := hs
theorem e3_has (a : Int32) (σ : gSt) : M_X3_has a σ = some (if 0 ≤ a ∧ a < σ 31 0 then 1 else 0, σ) := hs
theorem le_p {a : Int32} {n : Nat} (hn : n < 2 ^ 30) : a ≤ nI n - 1 ↔ a < nI n := by
  have h1 : (nI n - 1).toInt = (n : Int) - 1 := by
    have := pk_sub_toInt (a := n) (b := 1) hn (by decide)
    exact this
  rw [fa_le, fa_lt, h1, nI_toInt (by omega)]
  omega
theorem e10_isParish (a : Int32) (σ : gSt) {n : Nat} (h : σ 102 0 = nI n) (hn : n < 1000) : M_X10_isParish a σ = some (if 0 ≤ a ∧ a < nI n then 1 else 0, σ) := by
  unfold M_X10_isParish
  rw [gIx_c0, e10_within, gBd_s, gGd_t bz, tn0, h]
  simp only [le_p (show n < 2 ^ 30 by omega)]
theorem e10_isPerson (a : Int32) (σ : gSt) {n : Nat} (h : σ 102 1 = nI n) (hn : n < 1000) : M_X10_isPerson a σ = some (if 0 ≤ a ∧ a < nI n then 1 else 0, σ) := by
  unfold M_X10_isPerson
  rw [gIx_c1, e10_within, gBd_s, gGd_t bz, tn1, h]
  simp only [le_p (show n < 2 ^ 30 by omega)]
theorem e10_isOrder (a : Int32) (σ : gSt) {n : Nat} (h : σ 102 4 = nI n) (hn : n < 1000) : M_X10_isOrder a σ = some (if 0 ≤ a ∧ a < nI n then 1 else 0, σ) := by
  unfold M_X10_isOrder
  rw [gIx_c4, e10_within, gBd_s, gGd_t bz, tn4, h]
  simp only [le_p (show n < 2 ^ 30 by omega)]
theorem e10_isParishU (a : Int32) (σ : gSt) : M_X10_isParish a σ = some (if 0 ≤ a ∧ a ≤ σ 102 0 - 1 then 1 else 0, σ) := by
  unfold M_X10_isParish
  rw [gIx_c0, e10_within, gBd_s, gGd_t bz, tn0]
theorem e10_isPersonU (a : Int32) (σ : gSt) : M_X10_isPerson a σ = some (if 0 ≤ a ∧ a ≤ σ 102 1 - 1 then 1 else 0, σ) := by
  unfold M_X10_isPerson
  rw [gIx_c1, e10_within, gBd_s, gGd_t bz, tn1]
theorem e10_isOrderU (a : Int32) (σ : gSt) : M_X10_isOrder a σ = some (if 0 ≤ a ∧ a ≤ σ 102 4 - 1 then 1 else 0, σ) := by
  unfold M_X10_isOrder
  rw [gIx_c4, e10_within, gBd_s, gGd_t bz, tn4]
theorem ix_ok {j n : Nat} (h : j < n) (hn : n < 2 ^ 30) : 0 ≤ nI j ∧ nI j < nI n ∧ ¬ nI n ≤ nI j ∧ ¬ nI j < 0 ∧ ¬ nI n - 1 < nI j ∧ nI j ≤ nI n - 1 ∧ nI j ≠ -1 ∧ nI j ≠ (-1 : Int32) := by
  have h1 : (nI n - 1).toInt = (n : Int) - 1 := by
    have := pk_sub_toInt (a := n) (b := 1) hn (by decide)
    exact this
  have h2 : (nI j).toInt = j := nI_toInt (by omega)
  have h3 : (nI n).toInt = n := nI_toInt (by omega)
  have h4 : (0 : Int32).toInt = 0 := rfl
  have h5 : (-1 : Int32).toInt = -1 := rfl
  simp only [fa_lt, fa_le, ne_eq, fa_eq, h1, h2, h3, h4, h5]
  omega
