/-! ===== the one world: 110 cells, by number: 0 the desk; 1..42 its book; 43..84 what is kept; 85..90 the reckoner; 91 what the reference carries; 92..100 the sheets; 101..109 the rest of the reference ===== -/
abbrev gSt : Type := Nat → Nat → Int32
/-- (classes and slots, array classes, addresses of the cells, the address of KIND_OVER's array) -/
abbrev gPar : Type := va_G × (Nat → ClassId) × (Nat → Nat) × Nat
abbrev gN : Nat := 110
def gLenT : List Nat := [0, 0, 0, 6, 0, 6, 6, 6, 6, 6, 6, 0, 10, 10, 10, 10, 10, 0, 24, 24, 24, 24, 24, 24, 24, 24, 0, 12, 12, 12, 12, 0, 20, 20, 20, 20, 20, 20, 0, 10, 10, 10, 60, 0, 0, 6, 0, 6, 6, 6, 6, 6, 6, 0, 10, 10, 10, 10, 10, 0, 24, 24, 24, 24, 24, 24, 24, 24, 0, 12, 12, 12, 12, 0, 20, 20, 20, 20, 20, 20, 0, 10, 10, 10, 60, 0, 24, 10, 10, 9, 9, 60, 0, 0, 0, 0, 0, 60, 60, 60, 60, 0, 549, 549, 4, 4, 240, 10, 8, 256]
/-- an int array's length (0: the cell is none) -/
def gLen (k : Nat) : Nat := gLenT.getD k 0
def gOb (ad : Nat → Nat) (k : Nat) (f : Nat → Int32) : Nat × List Value := match k with
  | 0 => (9, [.ref (ad 1), .ref (ad 43), .ref (ad 85), .ref (ad 92), .int (f 4), .int (f 5)])
  | 1 => (0, [.ref (ad 2), .ref (ad 11), .ref (ad 17), .ref (ad 26), .ref (ad 31), .ref (ad 38), .int (f 6)])
  | 2 => (4, [.int (f 0), .ref (ad 3), .ref (ad 4)])
  | 11 => (5, [.int (f 0), .ref (ad 12), .ref (ad 13), .ref (ad 14), .ref (ad 15), .ref (ad 16)])
  | 17 => (1, [.int (f 0), .ref (ad 18), .ref (ad 19), .ref (ad 20), .ref (ad 21), .ref (ad 22), .ref (ad 23), .ref (ad 24), .ref (ad 25)])
  | 26 => (2, [.int (f 0), .ref (ad 27), .ref (ad 28), .ref (ad 29), .ref (ad 30)])
  | 31 => (3, [.int (f 0), .ref (ad 32), .ref (ad 33), .ref (ad 34), .ref (ad 35), .ref (ad 36), .ref (ad 37)])
  | 38 => (6, [.int (f 0), .ref (ad 39), .ref (ad 40), .ref (ad 41), .ref (ad 42)])
  | 43 => (0, [.ref (ad 44), .ref (ad 53), .ref (ad 59), .ref (ad 68), .ref (ad 73), .ref (ad 80), .int (f 6)])
  | 44 => (4, [.int (f 0), .ref (ad 45), .ref (ad 46)])
  | 53 => (5, [.int (f 0), .ref (ad 54), .ref (ad 55), .ref (ad 56), .ref (ad 57), .ref (ad 58)])
  | 59 => (1, [.int (f 0), .ref (ad 60), .ref (ad 61), .ref (ad 62), .ref (ad 63), .ref (ad 64), .ref (ad 65), .ref (ad 66), .ref (ad 67)])
  | 68 => (2, [.int (f 0), .ref (ad 69), .ref (ad 70), .ref (ad 71), .ref (ad 72)])
  | 73 => (3, [.int (f 0), .ref (ad 74), .ref (ad 75), .ref (ad 76), .ref (ad 77), .ref (ad 78), .ref (ad 79)])
  | 80 => (6, [.int (f 0), .ref (ad 81), .ref (ad 82), .ref (ad 83), .ref (ad 84)])
  | 85 => (7, [.ref (ad 1), .ref (ad 86), .ref (ad 87), .ref (ad 88), .ref (ad 89), .ref (ad 90), .int (f 6), .int (f 7)])
  | 93 => (8, [.int (f 0), .int (f 1), .ref (ad 97)])
  | 94 => (8, [.int (f 0), .int (f 1), .ref (ad 98)])
  | 95 => (8, [.int (f 0), .int (f 1), .ref (ad 99)])
  | 96 => (8, [.int (f 0), .int (f 1), .ref (ad 100)])
  | 101 => (10, [.ref (ad 102), .ref (ad 103), .int (f 2), .int (f 3), .ref (ad 104), .ref (ad 105), .ref (ad 106), .int (f 7), .ref (ad 107), .int (f 9), .ref (ad 108), .ref (ad 109), .ref (ad 91)])
  | _ => (0, [])
def gRf (ad : Nat → Nat) (b n : Nat) : Nat → Option Nat := fun j => if j < n then some (ad (b + j)) else none
def gE (G : gPar) (k : Nat) (f : Nat → Int32) : va_E :=
  if gLen k = 0 then
    (if k = 4 then .inl (G.2.1 1, 6, .inr (.inr (.inr (.inr (gRf G.2.2.1 5 6)))))
     else if k = 46 then .inl (G.2.1 1, 6, .inr (.inr (.inr (.inr (gRf G.2.2.1 47 6)))))
     else if k = 92 then .inl (G.2.1 2, 4, .inr (.inr (.inr (.inr (gRf G.2.2.1 93 4)))))
     else .inr (gOb G.2.2.1 k f))
  else .inl (G.2.1 0, gLen k, .inl f)
theorem gE_arr {G : gPar} {k : Nat} {f : Nat → Int32} (h : gLen k ≠ 0) : gE G k f = .inl (G.2.1 0, gLen k, .inl f) := if_neg h
theorem gE_0 {G : gPar} {f : Nat → Int32} : gE G 0 f = .inr (9, [.ref (G.2.2.1 1), .ref (G.2.2.1 43), .ref (G.2.2.1 85), .ref (G.2.2.1 92), .int (f 4), .int (f 5)]) := rfl
theorem gE_1 {G : gPar} {f : Nat → Int32} : gE G 1 f = .inr (0, [.ref (G.2.2.1 2), .ref (G.2.2.1 11), .ref (G.2.2.1 17), .ref (G.2.2.1 26), .ref (G.2.2.1 31), .ref (G.2.2.1 38), .int (f 6)]) := rfl
theorem gE_2 {G : gPar} {f : Nat → Int32} : gE G 2 f = .inr (4, [.int (f 0), .ref (G.2.2.1 3), .ref (G.2.2.1 4)]) := rfl
theorem gE_11 {G : gPar} {f : Nat → Int32} : gE G 11 f = .inr (5, [.int (f 0), .ref (G.2.2.1 12), .ref (G.2.2.1 13), .ref (G.2.2.1 14), .ref (G.2.2.1 15), .ref (G.2.2.1 16)]) := rfl
theorem gE_17 {G : gPar} {f : Nat → Int32} : gE G 17 f = .inr (1, [.int (f 0), .ref (G.2.2.1 18), .ref (G.2.2.1 19), .ref (G.2.2.1 20), .ref (G.2.2.1 21), .ref (G.2.2.1 22), .ref (G.2.2.1 23), .ref (G.2.2.1 24), .ref (G.2.2.1 25)]) := rfl
theorem gE_26 {G : gPar} {f : Nat → Int32} : gE G 26 f = .inr (2, [.int (f 0), .ref (G.2.2.1 27), .ref (G.2.2.1 28), .ref (G.2.2.1 29), .ref (G.2.2.1 30)]) := rfl
theorem gE_31 {G : gPar} {f : Nat → Int32} : gE G 31 f = .inr (3, [.int (f 0), .ref (G.2.2.1 32), .ref (G.2.2.1 33), .ref (G.2.2.1 34), .ref (G.2.2.1 35), .ref (G.2.2.1 36), .ref (G.2.2.1 37)]) := rfl
theorem gE_38 {G : gPar} {f : Nat → Int32} : gE G 38 f = .inr (6, [.int (f 0), .ref (G.2.2.1 39), .ref (G.2.2.1 40), .ref (G.2.2.1 41), .ref (G.2.2.1 42)]) := rfl
theorem gE_43 {G : gPar} {f : Nat → Int32} : gE G 43 f = .inr (0, [.ref (G.2.2.1 44), .ref (G.2.2.1 53), .ref (G.2.2.1 59), .ref (G.2.2.1 68), .ref (G.2.2.1 73), .ref (G.2.2.1 80), .int (f 6)]) := rfl
theorem gE_44 {G : gPar} {f : Nat → Int32} : gE G 44 f = .inr (4, [.int (f 0), .ref (G.2.2.1 45), .ref (G.2.2.1 46)]) := rfl
theorem gE_53 {G : gPar} {f : Nat → Int32} : gE G 53 f = .inr (5, [.int (f 0), .ref (G.2.2.1 54), .ref (G.2.2.1 55), .ref (G.2.2.1 56), .ref (G.2.2.1 57), .ref (G.2.2.1 58)]) := rfl
theorem gE_59 {G : gPar} {f : Nat → Int32} : gE G 59 f = .inr (1, [.int (f 0), .ref (G.2.2.1 60), .ref (G.2.2.1 61), .ref (G.2.2.1 62), .ref (G.2.2.1 63), .ref (G.2.2.1 64), .ref (G.2.2.1 65), .ref (G.2.2.1 66), .ref (G.2.2.1 67)]) := rfl
theorem gE_68 {G : gPar} {f : Nat → Int32} : gE G 68 f = .inr (2, [.int (f 0), .ref (G.2.2.1 69), .ref (G.2.2.1 70), .ref (G.2.2.1 71), .ref (G.2.2.1 72)]) := rfl
theorem gE_73 {G : gPar} {f : Nat → Int32} : gE G 73 f = .inr (3, [.int (f 0), .ref (G.2.2.1 74), .ref (G.2.2.1 75), .ref (G.2.2.1 76), .ref (G.2.2.1 77), .ref (G.2.2.1 78), .ref (G.2.2.1 79)]) := rfl
theorem gE_80 {G : gPar} {f : Nat → Int32} : gE G 80 f = .inr (6, [.int (f 0), .ref (G.2.2.1 81), .ref (G.2.2.1 82), .ref (G.2.2.1 83), .ref (G.2.2.1 84)]) := rfl
theorem gE_85 {G : gPar} {f : Nat → Int32} : gE G 85 f = .inr (7, [.ref (G.2.2.1 1), .ref (G.2.2.1 86), .ref (G.2.2.1 87), .ref (G.2.2.1 88), .ref (G.2.2.1 89), .ref (G.2.2.1 90), .int (f 6), .int (f 7)]) := rfl
theorem gE_93 {G : gPar} {f : Nat → Int32} : gE G 93 f = .inr (8, [.int (f 0), .int (f 1), .ref (G.2.2.1 97)]) := rfl
theorem gE_94 {G : gPar} {f : Nat → Int32} : gE G 94 f = .inr (8, [.int (f 0), .int (f 1), .ref (G.2.2.1 98)]) := rfl
theorem gE_95 {G : gPar} {f : Nat → Int32} : gE G 95 f = .inr (8, [.int (f 0), .int (f 1), .ref (G.2.2.1 99)]) := rfl
theorem gE_96 {G : gPar} {f : Nat → Int32} : gE G 96 f = .inr (8, [.int (f 0), .int (f 1), .ref (G.2.2.1 100)]) := rfl
theorem gE_101 {G : gPar} {f : Nat → Int32} : gE G 101 f = .inr (10, [.ref (G.2.2.1 102), .ref (G.2.2.1 103), .int (f 2), .int (f 3), .ref (G.2.2.1 104), .ref (G.2.2.1 105), .ref (G.2.2.1 106), .int (f 7), .ref (G.2.2.1 107), .int (f 9), .ref (G.2.2.1 108), .ref (G.2.2.1 109), .ref (G.2.2.1 91)]) := rfl
theorem gE_sheet {G : gPar} {f : Nat → Int32} {j : Nat} (h : j < 4) : gE G (93 + j) f = .inr (8, [.int (f 0), .int (f 1), .ref (G.2.2.1 (97 + j))]) := by
  rcases (show j = 0 ∨ j = 1 ∨ j = 2 ∨ j = 3 by omega) with rfl | rfl | rfl | rfl <;> rfl
theorem gL_num {j : Nat} (h : j < 4) : gLen (97 + j) = 60 := by
  rcases (show j = 0 ∨ j = 1 ∨ j = 2 ∨ j = 3 by omega) with rfl | rfl | rfl | rfl <;> rfl
theorem gL_mile {j : Nat} (h : j < 6) : gLen (5 + j) = 6 := by
  rcases (show j = 0 ∨ j = 1 ∨ j = 2 ∨ j = 3 ∨ j = 4 ∨ j = 5 by omega) with rfl | rfl | rfl | rfl | rfl | rfl <;> rfl
theorem gL_mile2 {j : Nat} (h : j < 6) : gLen (47 + j) = 6 := by
  rcases (show j = 0 ∨ j = 1 ∨ j = 2 ∨ j = 3 ∨ j = 4 ∨ j = 5 by omega) with rfl | rfl | rfl | rfl | rfl | rfl <;> rfl
def gWl (G : gPar) (σ : gSt) : va_W := (List.range gN).map (fun k => (G.2.2.1 k, gE G k (σ k)))
theorem gWl_get {G : gPar} {σ : gSt} {k : Nat} (h : k < gN) : (gWl G σ)[k]? = some (G.2.2.1 k, gE G k (σ k)) := by
  unfold gWl
  rw [List.getElem?_map, List.getElem?_range h]
  rfl
theorem gWl_of {G : gPar} {σ : gSt} {k : Nat} {q : Nat × va_E} (h : (gWl G σ)[k]? = some q) : k < gN ∧ q = (G.2.2.1 k, gE G k (σ k)) := by
  by_cases hk : k < gN
  · rw [gWl_get hk] at h
    exact ⟨hk, (Option.some.inj h).symm⟩
  · unfold gWl at h
    rw [List.getElem?_eq_none (by simp; omega)] at h
    cases h
/-- one row anew -/
def gRow (σ : gSt) (k : Nat) (f : Nat → Int32) : gSt := fun k' => if k' = k then f else σ k'
def gUp (σ : gSt) (k j : Nat) (v : Int32) : gSt := gRow σ k (upd (σ k) j v)
theorem gRow_s {σ : gSt} {k : Nat} {f : Nat → Int32} : gRow σ k f k = f := if_pos rfl
theorem gRow_n {σ : gSt} {k k' : Nat} {f : Nat → Int32} (h : k' ≠ k) : gRow σ k f k' = σ k' := if_neg h
theorem gWl_set {G : gPar} {σ : gSt} {k : Nat} {f : Nat → Int32} (hk : k < gN) : (gWl G σ).set k (G.2.2.1 k, gE G k f) = gWl G (gRow σ k f) := by
  apply List.ext_getElem?
  intro i
  by_cases hi : i < gN
  · rw [gWl_get hi]
    by_cases e : k = i
    · subst e
      rw [List.getElem?_set_self (by unfold gWl; simp; omega), gRow_s]
    · rw [List.getElem?_set_ne e, gWl_get hi, gRow_n (fun h => e h.symm)]
  · rw [List.getElem?_eq_none (by unfold gWl; simp; omega), List.getElem?_eq_none (by unfold gWl; simp; omega)]
def gW (G : gPar) (σ : gSt) (H : Heap) : Prop := va_P G.1 vwCl (gWl G σ) H
def gA (G : gPar) : Nat → Prop := fun q => ∃ k, k < gN ∧ G.2.2.1 k = q
def gD (G : gPar) : Prop := ∀ i j : Nat, i < gN → j < gN → G.2.2.1 i = G.2.2.1 j → i = j
theorem gD.D {G : gPar} {σ : gSt} (h : gD G) : va_D (gA G) (gWl G σ) := by
  refine ⟨fun i j x y hi hj hxy => ?_, fun k q hk => ?_⟩
  · obtain ⟨hi2, rfl⟩ := gWl_of hi
    obtain ⟨hj2, rfl⟩ := gWl_of hj
    exact h i j hi2 hj2 hxy
  · obtain ⟨hk2, rfl⟩ := gWl_of hk
    exact ⟨k, hk2, rfl⟩
def gTy (G : gPar) : List (ClassId × FieldType) := [(G.2.1 0, .int), (G.2.1 1, .array .int), (G.2.1 2, .object "PoorDesk$Sheet")]
def gNest : List Cond := [.methodLinkNest "PoorDesk$Facts" 40 yX9_copyRow "PoorDesk", .methodLinkNest "PoorDesk$Laws" 32 yX9_copyRow "PoorDesk", .methodLinkNest "PoorDesk$Orders" 34 yX9_copyRow "PoorDesk", .methodLinkNest "PoorDesk$Parishes" 24 yX9_copyRow "PoorDesk", .methodLinkNest "PoorDesk$Persons" 38 yX9_copyRow "PoorDesk", .methodLinkNest "PoorDesk$Poor" 72 yX9_within "PoorDesk", .methodLinkNest "PoorDesk$Poor" 76 yX9_copyRow "PoorDesk"]
theorem gNest_warm {s U : State} (hW : s.WarmedH U.vm) (h : ∀ w ∈ gNest, va_Nw w s) : ∀ w ∈ gNest, va_Nw w U := by
  intro w hw
  have h1 := h w hw
  simp only [gNest, List.mem_cons, List.not_mem_nil, or_false] at hw
  rcases hw with rfl | rfl | rfl | rfl | rfl | rfl | rfl <;> exact va_Nw.warmM hW h1
theorem gNest_same {s U : State} (hv : s.vm = U.vm) (h : ∀ w ∈ gNest, va_Nw w s) : ∀ w ∈ gNest, va_Nw w U := by
  intro w hw
  have h1 := h w hw
  simp only [gNest, List.mem_cons, List.not_mem_nil, or_false] at hw
  rcases hw with rfl | rfl | rfl | rfl | rfl | rfl | rfl <;> exact va_Nw.same rfl hv h1
/-- KIND_OVER's places -/
def gKO (j : Nat) : Int32 := [(-1 : Int32), 0, 0, 2].getD j 0
def gEnv (G : gPar) (U : State) : Prop := gD G ∧ va_K G.1 vwCl (gTy G) U ∧ (∀ w ∈ gNest, va_Nw w U) ∧ va_Z "PoorDesk$Persons" "KIND_OVER" "[I" (.ref G.2.2.2) (gA G) U U.heap ∧ va_T .int G.2.2.2 4 (fun j => .int (gKO j)) (gA G) U U.heap
theorem gEnv.go {G : gPar} {s U : State} {H : Heap} {locs : List Loc} {A0 : Nat → Prop} (h : gEnv G s) (hS : va_S A0 s.heap H locs) (hA : ∀ q, q < s.heap.size → ¬ gA G q → ¬ A0 q) (hW : s.WarmedH U.vm) (hU : U.heap = H) : gEnv G U := by
  obtain ⟨h1, h2, h3, h4, h5⟩ := h
  have hq : ∀ a : Nat, a < s.heap.size → ¬ gA G a → U.heap[a]? = s.heap[a]? := fun a ha hn => by rw [hU]; exact hS.2.1 a ha (hA a ha hn)
  exact ⟨h1, va_K.moved hW.alike h2, gNest_warm hW h3, (h4.moved hW.alike).kept hq, (h5.moved hW.alike).kept hq⟩
theorem gEnv.same {G : gPar} {s U : State} (h : gEnv G s) (hv : s.vm = U.vm) (hh : s.heap = U.heap) : gEnv G U := by
  obtain ⟨h1, h2, h3, h4, h5⟩ := h
  have ha : s.vm.Alike U.vm := by rw [hv]; exact Vm.Alike.refl _
  exact ⟨h1, va_K.moved ha h2, gNest_same hv h3, by rw [← hh]; exact h4.moved ha, by rw [← hh]; exact h5.moved ha⟩
/-- the words: all that are steady -/
def gTb : List Cond := lw_tbl.filter goodWord
theorem gTb_of {w : Cond} (i : Nat) (h : lw_tbl[i]? = some w) (hg : goodWord w = true) : w ∈ gTb := List.mem_filter.mpr ⟨List.mem_of_getElem? h, hg⟩
theorem gTb_in {w : Cond} (h : w ∈ gTb) : w ∈ lw_tbl := (List.mem_filter.mp h).1
theorem gTb_good {w : Cond} (h : w ∈ gTb) : (w.onTables && w.keeps) = true ∨ ∃ ty, w = .arrayClass ty := good_of_word (List.mem_filter.mp h).2
def gQ (G : gPar) (r : Int32) (σ' : gSt) : Array Value → State → Outcome → State → Prop := va_Qi (fun (r1 : Int32) (u : gSt) => r1 = r ∧ u = σ') (fun u t => gEnv G t ∧ gW G u t.heap) (gA G)
def gQv (G : gPar) (σ' : gSt) : Array Value → State → Outcome → State → Prop := va_Qv (fun (u : gSt) => u = σ') (fun u t => gEnv G t ∧ gW G u t.heap) (gA G)
abbrev gPc (G : gPar) (av : List Value) (σ : gSt) : Array Value → State → Prop := va_Pc av (fun U => gEnv G U ∧ gW G σ U.heap)
abbrev gRm (fr lo : Nat) : Room := { frames := fr, cells := 0, slots := 0, locals := lo }
/-- a method's contract: from the world σ, at these arguments, it answers r and leaves the world σ' -/
def gC (l : Launch) (G : gPar) (y : MethodName) (cc : ByteArray) (n : Nat) (ret : Option FieldType) (fr lo : Nat) (av : List Value) (σ : gSt) (r : Int32) (σ' : gSt) : Prop := Met l y (.code y cc n ret :: gTb) (gRm fr lo) (gPc G av σ) (gQ G r σ') 0 0 (gA G)
def gV (l : Launch) (G : gPar) (y : MethodName) (cc : ByteArray) (n : Nat) (fr lo : Nat) (av : List Value) (σ : gSt) (σ' : gSt) : Prop := Met l y (.code y cc n none :: gTb) (gRm fr lo) (gPc G av σ) (gQv G σ') 0 0 (gA G)
theorem gPc_blind {G : gPar} {av : List Value} {σ : gSt} : FrameBlind (gPc G av σ) := fun a U g mk q => by
  obtain ⟨q0, q1, q2⟩ := q
  exact ⟨q0, q1.same rfl rfl, q2⟩
theorem gC_of {l : Launch} {G : gPar} {y : MethodName} {cc : ByteArray} {n : Nat} {ret : Option FieldType} {fr lo : Nat} {av : List Value} {σ : gSt} {r : Int32} {σ' : gSt} (hy : plainName y.cls = true) (hn : (lg_sl av).length ≤ n)
    (body : ∀ p e s m below meth c, p.tables.exec = Jvm.exec → c.code = cc → meth.sig.returnType = ret → (∀ w ∈ gTb, w.before av.toArray s = true) → s.vm.findClass y.cls = some m.cls → meth.locks = false → c.maxLocals = n → gEnv G s → gW G σ s.heap → ∀ ls, lv_has ls n (lv_args 0 av) →
      W p l e (gRm fr lo) s m av.toArray below meth c s.heap [] 0 0 (MQ below (gQ G r σ') av.toArray s 0 0 (gA G)) (F0 m 0 ls [])) : gC l G y cc n ret fr lo av σ r σ' := by
  refine Met.ofW (cc := cc) (maxL := n) (ret := ret) hy rfl ?_
  intro p e s m args below meth c s₁ B hml hv
  obtain ⟨rfl, hE, hP⟩ := hv
  have hts := atoms_spec (ws := .code y cc n ret :: gTb) B.pre
  rw [lg_entry_eq]
  exact body p e s m below meth c B.exec B.bytes B.returns (fun w hw => hts w (List.mem_cons_of_mem _ hw)) (findClass_of_methodNamed B.named) B.notSynchronized hml hE hP _ (lv_entry av hn)
theorem gV_of {l : Launch} {G : gPar} {y : MethodName} {cc : ByteArray} {n : Nat} {fr lo : Nat} {av : List Value} {σ : gSt} {σ' : gSt} (hy : plainName y.cls = true) (hn : (lg_sl av).length ≤ n)
    (body : ∀ p e s m below meth c, p.tables.exec = Jvm.exec → c.code = cc → meth.sig.returnType = none → (∀ w ∈ gTb, w.before av.toArray s = true) → s.vm.findClass y.cls = some m.cls → meth.locks = false → c.maxLocals = n → gEnv G s → gW G σ s.heap → ∀ ls, lv_has ls n (lv_args 0 av) →
      W p l e (gRm fr lo) s m av.toArray below meth c s.heap [] 0 0 (MQ below (gQv G σ') av.toArray s 0 0 (gA G)) (F0 m 0 ls [])) : gV l G y cc n fr lo av σ σ' := by
  refine Met.ofW (cc := cc) (maxL := n) (ret := none) hy rfl ?_
  intro p e s m args below meth c s₁ B hml hv
  obtain ⟨rfl, hE, hP⟩ := hv
  have hts := atoms_spec (ws := .code y cc n none :: gTb) B.pre
  rw [lg_entry_eq]
  exact body p e s m below meth c B.exec B.bytes B.returns (fun w hw => hts w (List.mem_cons_of_mem _ hw)) (findClass_of_methodNamed B.named) B.notSynchronized hml hE hP _ (lv_entry av hn)
/-! ===== what a method's function is made of ===== -/
abbrev gO : Type := Option (Int32 × gSt)
def gFu : Nat := 1000
/-- an index into an array of n places -/
def gIx {α : Type} (n : Nat) (i : Int32) (X : Option α) : Option α := if i < 0 ∨ n ≤ i.toNatClampNeg then none else X
/-- a number gets a name -/
def gNm {α β : Type} (x : α) (K : α → β) : β := K x
/-- a call -/
def gBd {α : Type} (x : gO) (K : Int32 → gSt → Option α) : Option α := match x with
  | none => none
  | some q => K q.1 q.2
/-- what must hold lest the machine throws -/
def gGd {α : Type} (c : Prop) [Decidable c] (X : Option α) : Option α := if c then X else none
theorem g_ix {α : Type} {n : Nat} {i : Int32} {X : Option α} {R : α} (h : gIx n i X = some R) : vp_in i n ∧ X = some R := by
  unfold gIx at h
  by_cases c : i < 0 ∨ n ≤ i.toNatClampNeg
  · rw [if_pos c] at h
    cases h
  · rw [if_neg c] at h
    exact ⟨c, h⟩
theorem g_nm {α β : Type} {x y : α} {K : α → β} {R : β} (e : y = x) (h : gNm x K = R) : K y = R := by
  subst e
  exact h
theorem g_bd {α : Type} {x : gO} {K : Int32 → gSt → Option α} {R : α} (h : gBd x K = some R) : ∃ (r : Int32) (u : gSt), x = some (r, u) ∧ K r u = some R := by
  cases x with
  | none => cases h
  | some q => exact ⟨q.1, q.2, rfl, h⟩
theorem g_gd {α : Type} {c : Prop} [Decidable c] {X : Option α} {R : α} (h : gGd c X = some R) : c ∧ X = some R := by
  unfold gGd at h
  by_cases hc : c
  · rw [if_pos hc] at h
    exact ⟨hc, h⟩
  · rw [if_neg hc] at h
    cases h
theorem g_ift {α : Type} {c : Prop} [Decidable c] {X Y Z : α} (hc : c) (h : (if c then X else Y) = Z) : X = Z := by
  rw [if_pos hc] at h
  exact h
theorem g_iff {α : Type} {c : Prop} [Decidable c] {X Y Z : α} (hc : ¬ c) (h : (if c then X else Y) = Z) : Y = Z := by
  rw [if_neg hc] at h
  exact h
/-! ===== rows ===== -/
section GR
variable {p : Program} {l : Launch} {e : Env} {R : Room} {s : State} {m : MethodId} {args : Array Value} {below : List Frame} {meth : Method} {c : Code} {H : Heap} {locs : List Loc} {cells slots : Nat} {Q : State → Prop}
variable {cc : ByteArray} {pc : Nat} {ls : Array Slot} {rest : List Value} {G : gPar} {σ : gSt} {A0 : Nat → Prop}
theorem g_get {own ref C : String} {T : u_T} {N ci index : Nat} {fs : List Value} {v : Value} (hx : p.tables.exec = Jvm.exec) (hb : c.code = cc) (ht : ∀ w ∈ gTb, w.before args s = true) (hown : s.vm.findClass own = some m.cls) (hE : gEnv G s) (hP : gW G σ H)
    {k : Nat} (hk : k < gN) (he : gE G k (σ k) = .inr (ci, fs)) (hin : ∀ w ∈ u_ws C T N, w ∈ gTb) (hc : vwCl[ci]? = some (C, T, N)) (j : Nat) (hj : j < N) (hl : Cond.fieldLink own index ref (T j).2.1 (T j).2.2.1 ∈ gTb) (hr : ref = (T j).1) (hv : fs[j]? = some v) (hdg : decode cc pc = .ok (.getfield index, 3))
    (kk : W p l e R s m args below meth c H locs cells slots Q (F0 m (pc + 3) ls (v :: rest))) : W p l e R s m args below meth c H locs cells slots Q (F0 m pc ls (.ref (G.2.2.1 k) :: rest)) := by
  subst hr
  exact va_get hx hb ht hin hown hE.2.1 hP k (by rw [gWl_get hk, he]) hc j hj (ht _ hl) (fun _ h9 => h9) hv hdg kk
theorem g_put {own ref C : String} {T : u_T} {N ci index : Nat} {fs : List Value} {v : Int32} {ty : FieldType} {ty0 : Nat → FieldType} (hx : p.tables.exec = Jvm.exec) (hb : c.code = cc) (ht : ∀ w ∈ gTb, w.before args s = true) (hown : s.vm.findClass own = some m.cls) (hE : gEnv G s) (hP : gW G σ H) (hS : va_S (gA G) s.heap H locs)
    {k : Nat} (hk : k < gN) (he : gE G k (σ k) = .inr (ci, fs)) (hin : ∀ w ∈ u_ws C T N, w ∈ gTb) (hty : ∀ k, k < N → parseFieldDescriptor (T k).2.2.1 = some (ty0 k)) (hnm : ∀ a, a < N → ∀ b, b < N → a ≠ b → (T a).2.1 ≠ (T b).2.1) (hc : vwCl[ci]? = some (C, T, N)) (j : Nat) (hj : j < N) (hl : Cond.fieldLink own index ref (T j).2.1 (T j).2.2.1 ∈ gTb) (hr : ref = (T j).1)
    (hfin : (T j).2.2.2 = false) (hd : ty0 j = ty) (hn : narrow ty (.int v) = .int v) (hfit : fits ty (.int v) = true) (hlen : j < fs.length) (hset : gE G k (upd (σ k) j v) = .inr (ci, fs.set j (.int v))) (hdg : decode cc pc = .ok (.putfield index, 3))
    (kk : ∀ (H1 : Heap) (locs1 : List Loc) (σ1 : gSt), σ1 = gUp σ k j v → gW G σ1 H1 → va_S (gA G) s.heap H1 locs1 → W p l e R s m args below meth c H1 locs1 cells slots Q (F0 m (pc + 3) ls rest)) : W p l e R s m args below meth c H locs cells slots Q (F0 m pc ls (.int v :: .ref (G.2.2.1 k) :: rest)) := by
  subst hr
  subst hd
  refine va_put hx hb ht hin ty0 hty hnm hown hE.2.1 hP hE.1.D hS k (by rw [gWl_get hk, he]) hc j hj (ht _ hl) (fun _ h9 => h9) hfin (hty j hj) hn hfit hlen hdg (fun H1 locs1 hP1 hD1 hS1 => ?_)
  rw [← hset, gWl_set hk] at hP1
  exact kk H1 locs1 _ rfl hP1 hS1
theorem g_iald (hx : p.tables.exec = Jvm.exec) (hb : c.code = cc) (hE : gEnv G s) (hP : gW G σ H) {k n : Nat} (hk : k < gN) (hL : gLen k = n) (hn : n ≠ 0) {i : Int32} (hin : vp_in i n) (hdg : decode cc pc = .ok (.iaload, 1))
    (kk : W p l e R s m args below meth c H locs cells slots Q (F0 m (pc + 1) ls (.int (σ k i.toNatClampNeg) :: rest))) : W p l e R s m args below meth c H locs cells slots Q (F0 m pc ls (.int i :: .ref (G.2.2.1 k) :: rest)) := by
  subst hL
  exact va_iald hx hb hE.2.1 hP k 0 (by rw [gWl_get hk, gE_arr hn]) rfl hin hdg kk
theorem g_iast (hx : p.tables.exec = Jvm.exec) (hb : c.code = cc) (hE : gEnv G s) (hP : gW G σ H) (hS : va_S (gA G) s.heap H locs) {k n : Nat} (hk : k < gN) (hL : gLen k = n) (hn : n ≠ 0) {i x : Int32} (hin : vp_in i n) (hdg : decode cc pc = .ok (.iastore, 1))
    (kk : ∀ (H1 : Heap) (locs1 : List Loc) (σ1 : gSt), σ1 = gUp σ k i.toNatClampNeg x → gW G σ1 H1 → va_S (gA G) s.heap H1 locs1 → W p l e R s m args below meth c H1 locs1 cells slots Q (F0 m (pc + 1) ls rest)) : W p l e R s m args below meth c H locs cells slots Q (F0 m pc ls (.int x :: .int i :: .ref (G.2.2.1 k) :: rest)) := by
  subst hL
  refine va_iast hx hb hE.2.1 hP hE.1.D hS k 0 (by rw [gWl_get hk, gE_arr hn]) rfl hin hdg (fun H1 locs1 hP1 hD1 hS1 => ?_)
  rw [← gE_arr hn, gWl_set hk] at hP1
  exact kk H1 locs1 _ rfl hP1 hS1
theorem g_alen (hx : p.tables.exec = Jvm.exec) (hb : c.code = cc) (hE : gEnv G s) (hP : gW G σ H) {k n : Nat} (hk : k < gN) (hL : gLen k = n) (hn : n ≠ 0) {v : Int32} (hv : Int32.ofNat n = v) (hdg : decode cc pc = .ok (.arraylength, 1))
    (kk : W p l e R s m args below meth c H locs cells slots Q (F0 m (pc + 1) ls (.int v :: rest))) : W p l e R s m args below meth c H locs cells slots Q (F0 m pc ls (.ref (G.2.2.1 k) :: rest)) := by
  subst hL
  exact va_alen hx hb hE.2.1 hP k 0 (by rw [gWl_get hk, gE_arr hn]) rfl hv hdg kk
/-- a row of miles, a sheet -/
theorem g_aald (hx : p.tables.exec = Jvm.exec) (hb : c.code = cc) (hE : gEnv G s) (hP : gW G σ H) {k b n : Nat} (t0 : Nat) {cA : ClassId} {ty : FieldType} (hk : k < gN) (he : gE G k (σ k) = .inl (cA, n, .inr (.inr (.inr (.inr (gRf G.2.2.1 b n)))))) (ht : (gTy G)[t0]? = some (cA, ty)) (hty : ty.isReference = true) {i : Int32} (hin : vp_in i n) (hdg : decode cc pc = .ok (.aaload, 1))
    (kk : W p l e R s m args below meth c H locs cells slots Q (F0 m (pc + 1) ls (.ref (G.2.2.1 (b + i.toNatClampNeg)) :: rest))) : W p l e R s m args below meth c H locs cells slots Q (F0 m pc ls (.int i :: .ref (G.2.2.1 k) :: rest)) := by
  have hlt : i.toNatClampNeg < n := Nat.not_le.mp fun q => hin (Or.inr q)
  have hv : va_rf (gRf G.2.2.1 b n i.toNatClampNeg) = .ref (G.2.2.1 (b + i.toNatClampNeg)) := by
    unfold gRf
    rw [if_pos hlt]
    rfl
  have hcell := hP k _ (by rw [gWl_get hk, he])
  refine W.aald (v := va_rf (gRf G.2.2.1 b n i.toNatClampNeg)) (ty := ty) hx hb hcell ((hE.2.1.2 t0 _ ht).1 n (fun j => va_rf (gRf G.2.2.1 b n j))) hty (fun q => by cases q) (by show ¬ (i < 0 ∨ (arrV _ _ _).slots.size ≤ _); rw [arrV_size]; exact hin) (by show (arrV _ _ _).slots[_]? = _; rw [arrV_read _ _ hlt]) rfl rfl hdg ?_
  rw [hv]
  exact kk
theorem g_lt {i : Int32} {n : Nat} (h : vp_in i n) : i.toNatClampNeg < n := Nat.not_le.mp fun q => h (Or.inr q)
theorem g_kget (hx : p.tables.exec = Jvm.exec) (hb : c.code = cc) (ht : ∀ w ∈ gTb, w.before args s = true) {own : String} {index : Nat} (hown : s.vm.findClass own = some m.cls) (hE : gEnv G s) (hS : va_S (gA G) s.heap H locs) (hl : Cond.fieldLink own index "PoorDesk$Persons" "KIND_OVER" "[I" ∈ gTb) (hdg : decode cc pc = .ok (.getstatic index, 3))
    (kk : W p l e R s m args below meth c H locs cells slots Q (F0 m (pc + 3) ls (.ref G.2.2.2 :: rest))) : W p l e R s m args below meth c H locs cells slots Q (F0 m pc ls rest) :=
  va_gets hx hb hE.2.2.2.1 hS hown (ht _ hl) (fun _ h => h) hdg kk
theorem g_klen (hx : p.tables.exec = Jvm.exec) (hb : c.code = cc) (hE : gEnv G s) (hS : va_S (gA G) s.heap H locs) (hdg : decode cc pc = .ok (.arraylength, 1))
    (kk : W p l e R s m args below meth c H locs cells slots Q (F0 m (pc + 1) ls (.int 4 :: rest))) : W p l e R s m args below meth c H locs cells slots Q (F0 m pc ls (.ref G.2.2.2 :: rest)) :=
  va_tlen hx hb hE.2.2.2.2 hS rfl hdg kk
theorem g_kald (hx : p.tables.exec = Jvm.exec) (hb : c.code = cc) (hE : gEnv G s) (hS : va_S (gA G) s.heap H locs) {i : Int32} (hin : vp_in i 4) (hdg : decode cc pc = .ok (.iaload, 1))
    (kk : W p l e R s m args below meth c H locs cells slots Q (F0 m (pc + 1) ls (.int (gKO i.toNatClampNeg) :: rest))) : W p l e R s m args below meth c H locs cells slots Q (F0 m pc ls (.int i :: .ref G.2.2.2 :: rest)) :=
  va_ti hx hb hE.2.2.2.2 hS hin rfl hdg kk
theorem g_iret (hx : p.tables.exec = Jvm.exec) (hb : c.code = cc) (hr : meth.sig.returnType = some .int) (hlk : meth.locks = false) (hE : gEnv G s) (hP : gW G σ H) (hS : va_S (gA G) s.heap H locs) {v r : Int32} {σ' : gSt} (h : some (v, σ) = some (r, σ')) (hdg : decode cc pc = .ok (.ireturn, 1)) :
    W p l e R s m args below meth c H locs 0 0 (MQ below (gQ G r σ') args s 0 0 (gA G)) (F0 m pc ls [.int v]) := by
  cases h
  exact W.iret hx hb hr (fun t ht hW => ⟨⟨v, σ, rfl, ⟨rfl, rfl⟩, hE.go hS (fun _ _ h => h) hW ht, by rw [ht]; exact hP⟩, hS.F ht⟩) hS.2.2 hdg hlk
theorem g_zret (hx : p.tables.exec = Jvm.exec) (hb : c.code = cc) (hr : meth.sig.returnType = some .boolean) (hlk : meth.locks = false) (hE : gEnv G s) (hP : gW G σ H) (hS : va_S (gA G) s.heap H locs) {v r : Int32} {σ' : gSt} (hz : v = 0 ∨ v = 1) (h : some (v, σ) = some (r, σ')) (hdg : decode cc pc = .ok (.ireturn, 1)) :
    W p l e R s m args below meth c H locs 0 0 (MQ below (gQ G r σ') args s 0 0 (gA G)) (F0 m pc ls [.int v]) := by
  cases h
  exact W.zret hx hb hr (by rcases hz with rfl | rfl <;> rfl) (fun t ht hW => ⟨⟨v, σ, rfl, ⟨rfl, rfl⟩, hE.go hS (fun _ _ h => h) hW ht, by rw [ht]; exact hP⟩, hS.F ht⟩) hS.2.2 hdg hlk
theorem g_vret (hx : p.tables.exec = Jvm.exec) (hb : c.code = cc) (hr : meth.sig.returnType = none) (hlk : meth.locks = false) (hE : gEnv G s) (hP : gW G σ H) (hS : va_S (gA G) s.heap H locs) {v r : Int32} {σ' : gSt} (h : some (v, σ) = some (r, σ')) (hdg : decode cc pc = .ok (.return_, 1)) :
    W p l e R s m args below meth c H locs 0 0 (MQ below (gQv G σ') args s 0 0 (gA G)) (F0 m pc ls []) := by
  cases h
  exact W.vret hx hb hr (fun t ht hW => ⟨⟨σ, rfl, rfl, hE.go hS (fun _ _ h => h) hW ht, by rw [ht]; exact hP⟩, hS.F ht⟩) hS.2.2 hdg hlk
theorem g_recv (hE : gEnv G s) (hP : gW G σ H) {k ci : Nat} {fs : List Value} {q : vw_C} (hk : k < gN) (he : gE G k (σ k) = .inr (ci, fs)) (hc : vwCl[ci]? = some q) : ∃ cell : Cell, H[G.2.2.1 k]? = some cell ∧ cell.vm.isStatics = false ∧ s.vm.findClass q.1 = some cell.cls :=
  va_recv hE.2.1 hP hc (by rw [gWl_get hk, he])
theorem g_goodV {own C : String} {index : Nat} {y : MethodName} {bytes : ByteArray} {maxL : Nat} {ret : Option FieldType} (h1 : Cond.methodLink own index y ∈ gTb) (h2 : Cond.instanceMethod y ∈ gTb) (h3 : Cond.selects C y y ∈ gTb) (h4 : Cond.initialized C ∈ gTb) (h5 : Cond.code y bytes maxL ret ∈ gTb) : GoodIn gTb (wsV own index C y (.code y bytes maxL ret :: gTb)) := by
  intro w hw
  have hm : w ∈ gTb := by
    simp only [wsV, List.cons_append, List.nil_append, List.mem_cons] at hw
    rcases hw with rfl | rfl | rfl | rfl | rfl | hw
    · exact h1
    · exact h2
    · exact h3
    · exact h4
    · exact h5
    · exact hw
  exact ⟨hm, gTb_good hm⟩
theorem g_good {y : MethodName} {bytes : ByteArray} {maxL : Nat} {ret : Option FieldType} (h5 : Cond.code y bytes maxL ret ∈ gTb) : GoodIn gTb (.code y bytes maxL ret :: gTb) := by
  intro w hw
  have hm : w ∈ gTb := by
    rcases List.mem_cons.mp hw with rfl | hw
    · exact h5
    · exact hw
  exact ⟨hm, gTb_good hm⟩
end GR
