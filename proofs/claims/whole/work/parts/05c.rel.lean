/-! ===== the relation between the class's book and the reference's vector ===== -/
/-- columns: (cell, its first place, the vector's first place, how many) -/
def colT : List (Nat × Nat × Nat × Nat) := [(2,0,0,1),(11,0,1,1),(17,0,2,1),(26,0,3,1),(31,0,4,1),(1,6,5,1),(38,0,6,1),(3,0,7,6),(5,0,13,6),(6,0,19,6),(7,0,25,6),(8,0,31,6),(9,0,37,6),(10,0,43,6),(12,0,49,10),(13,0,59,10),(14,0,69,10),(15,0,79,10),(39,0,99,10),(40,0,109,10),(41,0,119,10),(18,0,129,24),(19,0,153,24),(20,0,177,24),(22,0,225,24),(23,0,249,24),(24,0,273,24),(25,0,297,24),(27,0,321,12),(29,0,345,12),(30,0,357,12),(32,0,369,20),(33,0,389,20),(34,0,409,20),(35,0,429,20),(36,0,449,20),(37,0,469,20),(42,0,489,60)]
def Col (c : gSt) (N : Nat → Int32) : Prop := ∀ q ∈ colT, ∀ j, j < q.2.2.2 → c q.1 (q.2.1 + j) = N (q.2.2.1 + j)
theorem colT_one : ∀ q ∈ colT, ∀ q' ∈ colT, q.1 = q'.1 → q = q' := by decide +kernel
theorem colT_apart : ∀ q ∈ colT, ∀ q' ∈ colT, q.1 ≠ q'.1 → q.2.2.1 + q.2.2.2 ≤ q'.2.2.1 ∨ q'.2.2.1 + q'.2.2.2 ≤ q.2.2.1 := by decide +kernel
theorem Col.up {c : gSt} {N : Nat → Int32} (h : Col c N) (k s o n : Nat) (hq : (k, s, o, n) ∈ colT) {j : Nat} (hj : j < n) (v : Int32) : Col (gUp c k (s + j) v) (upd N (o + j) v) := by
  intro q' hq' j' hj'
  by_cases e : k = q'.1
  · have := colT_one _ hq _ hq' e
    subst this
    dsimp only at hj' ⊢
    rw [gUp_s]
    by_cases ej : j' = j
    · subst ej
      rw [upd_s, upd_s]
    · rw [upd_n (by omega), upd_n (by omega)]
      exact h _ hq j' hj'
  · have := colT_apart _ hq _ hq' e
    rw [gUp_n (fun z => e z.symm), upd_n (by dsimp only at this; omega)]
    exact h _ hq' j' hj'
theorem Col.c {c : gSt} {N : Nat → Int32} (h : Col c N) (k : Nat) (hk : ∀ q ∈ colT, q.1 ≠ k) (j : Nat) (v : Int32) : Col (gUp c k j v) N := by
  intro q' hq' j' hj'
  rw [gUp_n (hk _ hq')]
  exact h _ hq' j' hj'
theorem Col.N {c : gSt} {N : Nat → Int32} (h : Col c N) (i : Nat) (hi : ∀ q ∈ colT, i < q.2.2.1 ∨ q.2.2.1 + q.2.2.2 ≤ i) (v : Int32) : Col c (upd N i v) := by
  intro q' hq' j' hj'
  have := hi _ hq'
  rw [upd_n (by omega)]
  exact h _ hq' j' hj'
/-- cells that no column names may change -/
theorem Col.same {c c' : gSt} {N : Nat → Int32} (h : Col c N) (hc : ∀ k, 1 ≤ k → k ≤ 42 → c' k = c k) : Col c' N := by
  intro q' hq' j' hj'
  have h1 : ∀ q ∈ colT, 1 ≤ q.1 ∧ q.1 ≤ 42 := by decide +kernel
  rw [hc _ (h1 _ hq').1 (h1 _ hq').2]
  exact h _ hq' j' hj'
theorem Col.get {c : gSt} {N : Nat → Int32} (h : Col c N) (k s o n : Nat) (hq : (k, s, o, n) ∈ colT) {j : Nat} (hj : j < n) : c k (s + j) = N (o + j) := h _ hq j hj
theorem Col.get0 {c : gSt} {N : Nat → Int32} (h : Col c N) (k o n : Nat) (hq : (k, 0, o, n) ∈ colT) {j : Nat} (hj : j < n) : c k j = N (o + j) := by
  have := h _ hq j hj
  dsimp only at this
  rw [Nat.zero_add] at this
  exact this
theorem Col.up0 {c : gSt} {N : Nat → Int32} (h : Col c N) (k o n : Nat) (hq : (k, 0, o, n) ∈ colT) {j : Nat} (hj : j < n) (v : Int32) : Col (gUp c k j v) (upd N (o + j) v) := by
  have := h.up k 0 o n hq hj v
  rw [Nat.zero_add] at this
  exact this
theorem Col.mile {c : gSt} {N : Nat → Int32} (h : Col c N) {i j : Nat} (hi : i < 6) (hj : j < 6) : c (5 + i) j = N (13 + 6 * i + j) := by
  rcases (show i = 0 ∨ i = 1 ∨ i = 2 ∨ i = 3 ∨ i = 4 ∨ i = 5 by omega) with rfl | rfl | rfl | rfl | rfl | rfl
  · exact h.get0 5 13 6 (by decide) hj
  · exact h.get0 6 19 6 (by decide) hj
  · exact h.get0 7 25 6 (by decide) hj
  · exact h.get0 8 31 6 (by decide) hj
  · exact h.get0 9 37 6 (by decide) hj
  · exact h.get0 10 43 6 (by decide) hj
theorem Col.upMile {c : gSt} {N : Nat → Int32} (h : Col c N) {i j : Nat} (hi : i < 6) (hj : j < 6) (v : Int32) : Col (gUp c (5 + i) j v) (upd N (13 + 6 * i + j) v) := by
  rcases (show i = 0 ∨ i = 1 ∨ i = 2 ∨ i = 3 ∨ i = 4 ∨ i = 5 by omega) with rfl | rfl | rfl | rfl | rfl | rfl
  · exact h.up0 5 13 6 (by decide) hj v
  · exact h.up0 6 19 6 (by decide) hj v
  · exact h.up0 7 25 6 (by decide) hj v
  · exact h.up0 8 31 6 (by decide) hj v
  · exact h.up0 9 37 6 (by decide) hj v
  · exact h.up0 10 43 6 (by decide) hj v
/-- what the columns leave out: the day of a link that is there, the pounds of a RENT, the NUMBER of a law that has one (else the vector has 0) -/
def Exc (c : gSt) (N : Nat → Int32) : Prop := (∀ j, j < 10 → 0 ≤ N (79 + j) → c 16 j = N (89 + j)) ∧ (∀ j, j < 24 → N (129 + j) = 1 → c 21 j = N (201 + j)) ∧ (∀ j, j < 12 → (N (321 + j) = 1 ∨ N (321 + j) = 2 ∨ N (321 + j) = 4 → c 28 j = N (333 + j)) ∧ (N (321 + j) = 0 ∨ N (321 + j) = 3 → N (333 + j) = 0))
/-- how many of the first n are 1 -/
def cnt1 (f : Nat → Int32) : Nat → Nat := fb_ct (fun k => decide (f k = 1))
/-- what the vector keeps to, part by part; each part looks at some places alone -/
def RgA (N : Nat → Int32) (np nq nf nl no : Nat) : Prop := (N 0 = nI np ∧ N 1 = nI nq ∧ N 2 = nI nf ∧ N 3 = nI nl ∧ N 4 = nI no) ∧ (np ≤ 6 ∧ nq ≤ 10 ∧ nf ≤ 24 ∧ nl ≤ 12 ∧ no ≤ 20)
def RgT (N : Nat → Int32) : Prop := 0 ≤ N 5 ∧ N 5 ≤ 999
def RgW (N : Nat → Int32) : Prop := ∀ j, j < 6 → 0 ≤ N (7 + j) ∧ N (7 + j) ≤ 10000
def RgP (N : Nat → Int32) : Prop := ∀ j, j < 10 → (0 ≤ N (49 + j) ∧ N (49 + j) ≤ 3) ∧ (0 ≤ N (59 + j) ∧ N (59 + j) ≤ 5) ∧ (0 ≤ N (69 + j) ∧ N (69 + j) ≤ 9999)
def RgS (N : Nat → Int32) : Prop := ∀ j, j < 10 → -1 ≤ N (99 + j)
def RgZ (N : Nat → Int32) (nq : Nat) : Prop := ∀ j, nq ≤ j → j < 10 → N (89 + j) = 0 ∧ N (109 + j) = 0 ∧ N (119 + j) = 0
def RgL (N : Nat → Int32) (nq : Nat) : Prop := (∀ j, j < nq → N (79 + j) = -1 ∨ (∃ i, i < nq ∧ N (79 + j) = nI i) ∧ (N (49 + j) = 1 ∨ N (49 + j) = 2)) ∧ (∃ rk : Nat → Nat, ∀ j i, j < nq → i < nq → N (79 + j) = nI i → rk i < rk j)
def RgF (N : Nat → Int32) : Prop := ∀ j, j < 24 → (N (129 + j) = 0 ∨ N (129 + j) = 1) ∧ (0 ≤ N (177 + j) ∧ N (177 + j) ≤ 5) ∧ (0 ≤ N (225 + j) ∧ N (225 + j) ≤ 9999) ∧ (0 ≤ N (249 + j) ∧ N (249 + j) ≤ 9999)
def RgD (N : Nat → Int32) (nf : Nat) : Prop := (∀ j, j < 24 → N (297 + j) = 0 ∨ N (297 + j) = 1) ∧ cnt1 (fun j => N (297 + j)) nf ≤ 8
def RgO (N : Nat → Int32) (nq no : Nat) : Prop := ∀ j, j < no → (∃ i, i < nq ∧ N (369 + j) = nI i) ∧ (0 ≤ N (429 + j) ∧ N (429 + j) ≤ 9999)
def Rg (N : Nat → Int32) (np nq nf nl no : Nat) : Prop := RgA N np nq nf nl no ∧ RgT N ∧ RgW N ∧ RgP N ∧ RgS N ∧ RgZ N nq ∧ RgL N nq ∧ RgF N ∧ RgD N nf ∧ RgO N nq no
theorem Exc.same {c c' : gSt} {N N' : Nat → Int32} (h : Exc c N) (h1 : c' 16 = c 16) (h2 : c' 21 = c 21) (h3 : c' 28 = c 28) (hN : ∀ i, (79 ≤ i ∧ i < 99) ∨ (129 ≤ i ∧ i < 153) ∨ (201 ≤ i ∧ i < 225) ∨ (321 ≤ i ∧ i < 345) → N' i = N i) : Exc c' N' := by
  obtain ⟨a1, a2, a3⟩ := h
  refine ⟨fun j hj => ?_, fun j hj => ?_, fun j hj => ?_⟩
  · rw [h1, hN (79 + j) (by omega), hN (89 + j) (by omega)]; exact a1 j hj
  · rw [h2, hN (129 + j) (by omega), hN (201 + j) (by omega)]; exact a2 j hj
  · rw [h3, hN (321 + j) (by omega), hN (333 + j) (by omega)]; exact a3 j hj
theorem RgT.same {N N' : Nat → Int32} (h : RgT N) (hN : N' 5 = N 5) : RgT N' := by unfold RgT; rw [hN]; exact h
theorem RgW.same {N N' : Nat → Int32} (h : RgW N) (hN : ∀ i, 7 ≤ i ∧ i < 13 → N' i = N i) : RgW N' := fun j hj => by rw [hN (7 + j) (by omega)]; exact h j hj
theorem RgP.same {N N' : Nat → Int32} (h : RgP N) (hN : ∀ i, 49 ≤ i ∧ i < 79 → N' i = N i) : RgP N' := fun j hj => by rw [hN (49 + j) (by omega), hN (59 + j) (by omega), hN (69 + j) (by omega)]; exact h j hj
theorem RgS.same {N N' : Nat → Int32} (h : RgS N) (hN : ∀ i, 99 ≤ i ∧ i < 109 → N' i = N i) : RgS N' := fun j hj => by rw [hN (99 + j) (by omega)]; exact h j hj
theorem RgZ.same {N N' : Nat → Int32} {nq nq' : Nat} (h : RgZ N nq) (hq : nq ≤ nq') (hN : ∀ j, nq' ≤ j → j < 10 → N' (89 + j) = N (89 + j) ∧ N' (109 + j) = N (109 + j) ∧ N' (119 + j) = N (119 + j)) : RgZ N' nq' := fun j h1 h2 => by
  obtain ⟨a, b, c⟩ := hN j h1 h2
  rw [a, b, c]
  exact h j (by omega) h2
theorem RgL.same {N N' : Nat → Int32} {nq : Nat} (h : RgL N nq) (hb : nq ≤ 10) (hN : ∀ i, (49 ≤ i ∧ i < 59) ∨ (79 ≤ i ∧ i < 89) → N' i = N i) : RgL N' nq := by
  obtain ⟨h1, rk, h2⟩ := h
  refine ⟨fun j hj => ?_, rk, fun j i hj hi => ?_⟩
  · rw [hN (49 + j) (by omega), hN (79 + j) (by omega)]; exact h1 j hj
  · rw [hN (79 + j) (by omega)]; exact h2 j i hj hi
theorem RgF.same {N N' : Nat → Int32} (h : RgF N) (hN : ∀ i, (129 ≤ i ∧ i < 153) ∨ (177 ≤ i ∧ i < 201) ∨ (225 ≤ i ∧ i < 273) → N' i = N i) : RgF N' := fun j hj => by rw [hN (129 + j) (by omega), hN (177 + j) (by omega), hN (225 + j) (by omega), hN (249 + j) (by omega)]; exact h j hj
theorem RgD.same {N N' : Nat → Int32} {nf : Nat} (h : RgD N nf) (hN : ∀ i, 297 ≤ i ∧ i < 321 → N' i = N i) (hb : nf ≤ 24) : RgD N' nf := by
  have e : ∀ j, j < 24 → N' (297 + j) = N (297 + j) := fun j hj => hN (297 + j) (by omega)
  refine ⟨fun j hj => by rw [e j hj]; exact h.1 j hj, ?_⟩
  have : cnt1 (fun j => N' (297 + j)) nf = cnt1 (fun j => N (297 + j)) nf := fb_ct_cong (fun k hk => by simp only [e k (show k < 24 by omega)])
  rw [this]
  exact h.2
theorem RgO.same {N N' : Nat → Int32} {nq nq' no : Nat} (h : RgO N nq no) (hq : nq ≤ nq') (hb : no ≤ 20) (hN : ∀ i, (369 ≤ i ∧ i < 389) ∨ (429 ≤ i ∧ i < 449) → N' i = N i) : RgO N' nq' no := fun j hj => by
  rw [hN (369 + j) (by omega), hN (429 + j) (by omega)]
  obtain ⟨⟨i, h1, h2⟩, h3⟩ := h j hj
  exact ⟨⟨i, by omega, h2⟩, h3⟩
def Bk (c : gSt) (N : Nat → Int32) : Prop := Col c N ∧ Exc c N ∧ ∃ np nq nf nl no, Rg N np nq nf nl no
def Sh (σ : gSt) : Prop := ∀ j, j < 4 → σ (93 + j) 0 = σ 104 j ∧ σ (93 + j) 1 = σ 105 j ∧ (∀ i, i < 60 → σ (97 + j) i = σ 106 (60 * j + i)) ∧ (∃ n, n ≤ 60 ∧ σ 105 j = nI n) ∧ (σ 104 j = 0 ∨ σ 104 j = 8 ∨ σ 104 j = 16 ∨ σ 104 j = 32)
def Inv (σ : gSt) : Prop := Bk σ (σ 102) ∧ (σ 101 2 = 1 → Bk (fun k => σ (k + 42)) (σ 103)) ∧ (σ 0 4 = σ 101 2 ∧ (σ 101 2 = 0 ∨ σ 101 2 = 1)) ∧ σ 0 5 = σ 101 3 ∧ Sh σ
/-- class and reference answer alike, and what is kept to is kept to -/
def Agr (f g : gSt → gO) (σ : gSt) : Prop := ∃ (r : Int32) (σ1 σ2 : gSt), f σ = some (r, σ1) ∧ g σ1 = some (r, σ2) ∧ Inv σ2
theorem Bk.same {c c' : gSt} {N : Nat → Int32} (h : Bk c N) (hc : ∀ k, 1 ≤ k → k ≤ 42 → c' k = c k) : Bk c' N := by
  obtain ⟨h1, h2, h3⟩ := h
  refine ⟨h1.same hc, ?_, h3⟩
  unfold Exc at h2 ⊢
  rw [hc 16 (by decide) (by decide), hc 21 (by decide) (by decide), hc 28 (by decide) (by decide)]
  exact h2
/-- what isn't the book's may change: the rest of the relation stays when its own cells stay -/
theorem Inv.book {σ σ' : gSt} (h : Inv σ) (hb : Bk σ' (σ' 102)) (hk : ∀ k, (43 ≤ k ∧ k ≤ 84) ∨ (93 ≤ k ∧ k ≤ 101) ∨ (103 ≤ k ∧ k ≤ 106) ∨ k = 0 → σ' k = σ k) : Inv σ' := by
  obtain ⟨h1, h2, h3, h4, h5⟩ := h
  refine ⟨hb, ?_, ?_, ?_, ?_⟩
  · rw [hk 101 (by omega), hk 103 (by omega)]
    exact fun e => (h2 e).same (fun k a b => hk _ (by omega))
  · rw [hk 101 (by omega), hk 0 (by omega)]
    exact h3
  · rw [hk 101 (by omega), hk 0 (by omega)]
    exact h4
  · intro j hj
    rw [hk 104 (by omega), hk 105 (by omega), hk 106 (by omega), hk (93 + j) (by omega), hk (97 + j) (by omega)]
    exact h5 j hj
/-- a finding, told by both -/
theorem Inv.find {σ : gSt} (h : Inv σ) : Inv (gFm (gF σ)) := by
  obtain ⟨h1, h2, h3, h4, h5⟩ := h
  have e0 : ∀ k, k ≠ 0 → k ≠ 101 → gFm (gF σ) k = σ k := fun k a b => by rw [gFm, gUp_n b, gF, gUp_n a]
  have e1 : ∀ i, i ≠ 3 → gFm (gF σ) 101 i = σ 101 i := fun i hi => by rw [gFm, gUp_s, upd_n hi, gF, gUp_n (by decide)]
  have e2 : ∀ i, i ≠ 5 → gFm (gF σ) 0 i = σ 0 i := fun i hi => by rw [gFm, gUp_n (by decide), gF, gUp_s, upd_n hi]
  refine ⟨?_, ?_, ?_, ?_, ?_⟩
  · rw [e0 102 (by decide) (by decide)]
    exact h1.same (fun k a b => e0 k (by omega) (by omega))
  · rw [e1 2 (by decide), e0 103 (by decide) (by decide)]
    exact fun e => (h2 e).same (fun k a b => e0 _ (by omega) (by omega))
  · rw [e1 2 (by decide), e2 4 (by decide)]
    exact h3
  · rw [gFm, gUp_n (by decide), gUp_s, upd_s, gF, gUp_s, upd_s, gUp_n (by decide), h4]
  · intro j hj
    rw [e0 104 (by decide) (by decide), e0 105 (by decide) (by decide), e0 106 (by decide) (by decide), e0 (93 + j) (by omega) (by omega), e0 (97 + j) (by omega) (by omega)]
    exact h5 j hj
theorem Agr.find {f g : gSt → gO} {σ : gSt} (h : Inv σ) (x : Int32) (hf : f σ = some (x, gF σ)) (hg : g (gF σ) = some (x, gFm (gF σ))) : Agr f g σ := ⟨x, _, _, hf, hg, h.find⟩
