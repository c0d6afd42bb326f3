/-- arrays over an array type, as the kit has va_AO for objects (the printed block below names it, nothing defines it) -/
def va_AOA (ty : FieldType) (U : State) : Prop := (Cond.arrayOver (.array ty)).before #[] U = true
theorem va_AOA.of {ty : FieldType} {A : Array Value} {U : State} (h : (Cond.arrayOver (.array ty)).before A U = true) : va_AOA ty U := h
theorem va_AOA.use {ty : FieldType} {A : Array Value} {U : State} (h : va_AOA ty U) : (Cond.arrayOver (.array ty)).before A U = true := h
/-! ===== BEGIN words of one list among another's, by their places ===== -/
theorem goodIn_r {big : List Cond} (ws : List Cond) (ps : List Nat) (hp : ws = ps.filterMap (fun i => big[i]?)) (h : ws.all goodWord = true) : GoodIn big ws := by
  intro w hw
  have h1 := List.all_eq_true.mp h w hw
  rw [hp] at hw
  obtain ⟨i, -, hi⟩ := List.mem_filterMap.mp hw
  have hm : w ∈ big := by first | exact List.mem_of_getElem? hi | exact List.getElem?_mem hi
  exact ⟨hm, good_of_word h1⟩
theorem goodIn_app {big a b : List Cond} (ha : GoodIn big a) (hb : GoodIn big b) : GoodIn big (a ++ b) := fun w h => (List.mem_append.mp h).elim (ha w) (hb w)
theorem goodIn_ca {big a b : List Cond} {c : Cond} (ha : GoodIn big (c :: a)) (hb : GoodIn big b) : GoodIn big (c :: (a ++ b)) := fun w h => (List.mem_cons.mp h).elim (fun e => ha w (List.mem_cons.mpr (Or.inl e))) (fun h => (List.mem_append.mp h).elim (fun h => ha w (List.mem_cons.mpr (Or.inr h))) (hb w))
theorem goodIn_sub {big ws : List Cond} (hm : ∀ w ∈ ws, w ∈ big) (h : ws.all goodWord = true) : GoodIn big ws := fun w hw => ⟨hm w hw, good_of_word (List.all_eq_true.mp h w hw)⟩
/-! ===== END ===== -/

/-! ===== BEGIN new T[n][m]: the outer array a place, the inner ones among the pooled ===== -/
/-- f, but v at every address of l -/
def vr_up {α : Type} (f : Nat → α) (l : List Nat) (v : α) : Nat → α := fun a => if a ∈ l then v else f a
theorem vr_up_in {α : Type} {f : Nat → α} {l : List Nat} {v : α} {a : Nat} (h : a ∈ l) : vr_up f l v a = v := if_pos h
theorem vr_up_ne {α : Type} {f : Nat → α} {l : List Nat} {v : α} {a : Nat} (h : a ∉ l) : vr_up f l v a = f a := if_neg h
theorem vr_rows {L l : List Nat} {f : Nat → va_E} {e : va_E} (h : ∀ a, a ∈ l → a ∉ L) : va_pl L f ++ l.map (fun a => (a, e)) = va_pl (L ++ l) (vr_up f l e) := by
  unfold va_pl
  rw [List.map_append]
  congr 1
  · apply List.map_congr_left
    intro a ha
    rw [vr_up_ne (fun q => h a q ha)]
  · apply List.map_congr_left
    intro a ha
    rw [vr_up_in ha]
theorem vr_lay {X rows : va_W} {x : Nat × va_E} {pl : va_W} {D : va_G} {cl : List vw_C} {H : Heap} (hP : va_P D cl (((X ++ pl) ++ [x]) ++ rows) H) : va_P D cl ((X ++ [x]) ++ (pl ++ rows)) H := by
  rw [List.append_assoc (X ++ pl)] at hP
  have h := va_P.swap hP
  rw [← List.append_assoc X] at h
  have h2 := va_P.swap h
  rw [List.append_assoc (X ++ [x])] at h2
  exact h2
theorem vr_layD {X rows : va_W} {x : Nat × va_E} {pl : va_W} {A : Nat → Prop} (hD : va_D A (((X ++ pl) ++ [x]) ++ rows)) : va_D A ((X ++ [x]) ++ (pl ++ rows)) := by
  rw [List.append_assoc (X ++ pl)] at hD
  have h := va_D.swap hD
  rw [← List.append_assoc X] at h
  have h2 := va_D.swap h
  rw [List.append_assoc (X ++ [x])] at h2
  exact h2
theorem vr_outer (c : ClassId) (N h0 : Nat) : ∀ i : Nat, Jvm.Free.Multi.outerC c N h0 i = arrV c N (fun j => va_rf (if j < i then some (h0 + 1 + j) else none))
  | 0 => by
    show ({ cls := c, slots := Array.replicate N .null, vm := .none } : Cell) = _
    rw [arrV_new]
    refine congrArg (arrV c N) (funext fun j => ?_)
    simp [va_rf]
  | i + 1 => by
    show (Jvm.Free.Multi.outerC c N h0 i).setSlot i (.ref (h0 + 1 + i)) = _
    rw [vr_outer c N h0 i, arrV_store]
    refine congrArg (arrV c N) (funext fun j => ?_)
    by_cases e : j = i
    · subst e
      simp [updV, va_rf]
    · by_cases h : j < i
      · simp [updV, e, h, Nat.lt_succ_of_lt h]
      · simp [updV, e, h, show ¬ j < i + 1 by omega]
section VGM
variable {p : Program} {l : Launch} {e : Env} {R : Room} {s : State} {m : MethodId} {args : Array Value} {below : List Frame} {meth : Method} {c : Code} {H : Heap} {locs : List Loc} {cells slots : Nat} {Q : State → Prop}
variable {cc : ByteArray} {pc : Nat} {ls : Array Slot} {rest : List Value} {D : va_G} {cl : List vw_C} {A : Nat → Prop} {a : Nat} {tys : List (ClassId × FieldType)} {ws : va_W} {H0 : Heap}
theorem va_mna {X : va_W} {L : List Nat} {f : Nat → va_E} {cc : ByteArray} (hexec : p.tables.exec = Jvm.exec) (hb : c.code = cc) {own : String} {index : Nat} {ty : FieldType} {cy : ClassId} (hown : s.vm.findClass own = some m.cls) (hclink : (Cond.classLink own index ("[" ++ (FieldType.array ty).toString)).before args s = true) (hover : va_AOA ty s) (harr : (Cond.arrayClass ty).before args s = true) (hcy : s.vm.findClass (FieldType.array ty).toString = some cy)
    (hK : va_K D cl tys s) (hP : va_P D cl (X ++ va_pl L f) H) (hD : va_D A (X ++ va_pl L f)) (hS : va_S A H0 H locs) (hA : ∀ q, H0.size ≤ q → A q) {n k : Int32} {N' K' : Nat} {z : vp_A} (hn : ¬ n < 0) (hk : ¬ k < 0) (hN : n.toNatClampNeg = N') (hM : k.toNatClampNeg = K')
    (hb1 : N' * 4 ≤ 536870912) (hb2 : K' * componentBytes ty ≤ 536870912) (hb3 : K' ≤ 536870912) (hdf : fits ty (defaultValue ty) = true) (hdd : (defaultValue ty).isDefault = true) (hcells : cells + (1 + N') ≤ R.cells) (hslots : slots + (N' + N' * K') ≤ R.slots) (hz : ∀ c : ClassId, Jvm.Free.Multi.innerC c K' (defaultValue ty) = vp_cell c z) (hdg : decode cc pc = .ok (.multianewarray index 2, 4))
    (kk : ∀ (q : Nat) (r : Nat → Nat) (cA : ClassId) (H1 : Heap), (∀ i j : Nat, i < N' → j < N' → r i = r j → i = j) → (∀ i : Nat, i < N' → r i ∉ L) → va_K D cl (tys ++ [(cA, .array ty)]) s →
      va_P D cl ((X ++ [(q, .inl (cA, N', .inr (.inr (.inr (.inr (fun i => if i < N' then some (r i) else none))))))]) ++ va_pl (L ++ (List.range N').map r) (vr_up f ((List.range N').map r) (.inl (cy, z)))) H1 → va_D A ((X ++ [(q, .inl (cA, N', .inr (.inr (.inr (.inr (fun i => if i < N' then some (r i) else none))))))]) ++ va_pl (L ++ (List.range N').map r) (vr_up f ((List.range N').map r) (.inl (cy, z)))) → va_S A H0 H1 locs →
      W p l e R s m args below meth c H1 locs (cells + 1 + N') (slots + N' + N' * K') Q (F0 m (pc + 4) ls (.ref q :: rest))) : W p l e R s m args below meth c H locs cells slots Q (F0 m pc ls (.int k :: .int n :: rest)) := by
  subst hN
  subst hM
  intro T hT Xs
  obtain ⟨vm₁, cA, comp, -, fA, fC, hO, -, X', step⟩ := Xs.multianewarray2F hexec hown hclink (va_AOA.use hover) harr (g := F0 m pc ls (.int k :: .int n :: rest)) rfl (by rw [hb]; exact hdg) rfl hn hk hb1 hb2 hb3 hdf hdd hcells hslots
  have ec : some cy = some comp := hcy.symm.trans fC
  cases ec
  generalize hF : Jvm.Free.Multi.fill (T.setVm vm₁) cA cy n.toNatClampNeg k.toNatClampNeg (defaultValue ty) n.toNatClampNeg = F at X' step
  have hTh : (T.setVm vm₁).heap = H := hT
  obtain ⟨f1, f2, -, -⟩ := Jvm.Free.Multi.fill_facts (T.setVm vm₁) cA cy n.toNatClampNeg k.toNatClampNeg (defaultValue ty) n.toNatClampNeg
  rw [hF, hTh] at f1 f2
  have hold : ∀ x : Nat, x < H.size → F.heap[x]? = H[x]? := fun x hx => by
    have := Jvm.Free.Multi.fill_old (T.setVm vm₁) cA cy n.toNatClampNeg k.toNatClampNeg (defaultValue ty) (a := x) (by rw [hTh]; exact hx) n.toNatClampNeg
    rw [hF, hTh] at this
    exact this
  have hrow : ∀ j : Nat, j < n.toNatClampNeg → F.heap[H.size + 1 + j]? = some (vp_cell cy z) := fun j hj => by
    have := Jvm.Free.Multi.fill_inner (T.setVm vm₁) cA cy n.toNatClampNeg k.toNatClampNeg (defaultValue ty) n.toNatClampNeg j hj
    rw [hF, hTh, hz] at this
    exact this
  have hout : Jvm.Free.Multi.outerC cA n.toNatClampNeg H.size n.toNatClampNeg = vp_cell cA (n.toNatClampNeg, .inr (.inr (.inr (.inr (fun i => if i < n.toNatClampNeg then some (H.size + 1 + i) else none))))) := by
    rw [vp_cell_q]
    exact vr_outer cA n.toNatClampNeg H.size n.toNatClampNeg
  rw [hout] at f2
  have hlt : ∀ a, a ∈ L → a < H.size := fun a ha => by
    obtain ⟨k9, hk9⟩ := va_pl_get (X := X) (f := f) ha
    exact (hP k9 _ hk9).lt
  have hnl : ∀ i : Nat, i < n.toNatClampNeg → H.size + 1 + i ∉ L := fun i _ h => by
    have := hlt _ h
    omega
  have hnm : ∀ a, a ∈ (List.range n.toNatClampNeg).map (fun i => H.size + 1 + i) → a ∉ L := fun a ha h => by
    obtain ⟨i, -, rfl⟩ := List.mem_map.mp ha
    have := hlt _ h
    omega
  have hP0 : va_P D cl (X ++ va_pl L f) F.heap := hP.kept (fun k9 x hx => hold x.1 ((hP k9 x hx).lt))
  have hP1 : va_P D cl ((X ++ va_pl L f) ++ [(H.size, .inl (cA, n.toNatClampNeg, .inr (.inr (.inr (.inr (fun i => if i < n.toNatClampNeg then some (H.size + 1 + i) else none))))))]) F.heap := hP0.app (fun k9 x hx => by
    have h0 : k9 < 1 := (List.getElem?_eq_some_iff.mp hx).1
    rw [show k9 = 0 by omega] at hx
    cases hx
    exact f2)
  have hP2 : va_P D cl (((X ++ va_pl L f) ++ [(H.size, .inl (cA, n.toNatClampNeg, .inr (.inr (.inr (.inr (fun i => if i < n.toNatClampNeg then some (H.size + 1 + i) else none))))))]) ++ ((List.range n.toNatClampNeg).map (fun i => H.size + 1 + i)).map (fun a => (a, .inl (cy, z)))) F.heap := hP1.app (fun k9 x hx => by
    obtain ⟨a, ha, rfl⟩ := List.mem_map.mp (List.mem_of_getElem? hx)
    obtain ⟨i, hi, rfl⟩ := List.mem_map.mp ha
    exact hrow i (List.mem_range.mp hi))
  have hD2 : va_D A (((X ++ va_pl L f) ++ [(H.size, .inl (cA, n.toNatClampNeg, .inr (.inr (.inr (.inr (fun i => if i < n.toNatClampNeg then some (H.size + 1 + i) else none))))))]) ++ ((List.range n.toNatClampNeg).map (fun i => H.size + 1 + i)).map (fun a => (a, .inl (cy, z)))) := by
    have hD1 := hD.push (e := .inl (cA, n.toNatClampNeg, .inr (.inr (.inr (.inr (fun i => if i < n.toNatClampNeg then some (H.size + 1 + i) else none)))))) hP rfl (hA _ hS.1)
    generalize hW1 : (X ++ va_pl L f) ++ [(H.size, .inl (cA, n.toNatClampNeg, .inr (.inr (.inr (.inr (fun i => if i < n.toNatClampNeg then some (H.size + 1 + i) else none))))))] = W1 at hD1 hP1 ⊢
    have hle : ∀ (k9 : Nat) (x : Nat × va_E), W1[k9]? = some x → x.1 ≤ H.size := fun k9 x hx => by
      rw [← hW1] at hx
      by_cases hl : k9 < (X ++ va_pl L f).length
      · rw [List.getElem?_append_left hl] at hx
        exact Nat.le_of_lt ((hP k9 x hx).lt)
      · rw [List.getElem?_append_right (by omega)] at hx
        have h0 : k9 - (X ++ va_pl L f).length < 1 := (List.getElem?_eq_some_iff.mp hx).1
        rw [show k9 - (X ++ va_pl L f).length = 0 by omega] at hx
        cases hx
        exact Nat.le_refl _
    have hr : ∀ (k9 : Nat) (x : Nat × va_E), (((List.range n.toNatClampNeg).map (fun i => H.size + 1 + i)).map (fun a => ((a, .inl (cy, z)) : Nat × va_E)))[k9]? = some x → x.1 = H.size + 1 + k9 := fun k9 x hx => by
      rw [List.getElem?_map, List.getElem?_map] at hx
      by_cases h9 : k9 < n.toNatClampNeg
      · rw [List.getElem?_range h9] at hx
        cases hx
        rfl
      · have hn0 : (List.range n.toNatClampNeg)[k9]? = none := List.getElem?_eq_none (by rw [List.length_range]; omega)
        rw [hn0] at hx
        cases hx
    refine ⟨fun i j x y hi hj hxy => ?_, fun k9 x hx => ?_⟩
    · by_cases h1 : i < W1.length <;> by_cases h2 : j < W1.length
      · rw [List.getElem?_append_left h1] at hi
        rw [List.getElem?_append_left h2] at hj
        exact hD1.1 i j x y hi hj hxy
      · rw [List.getElem?_append_left h1] at hi
        rw [List.getElem?_append_right (by omega)] at hj
        have := hle _ _ hi
        have := hr _ _ hj
        omega
      · rw [List.getElem?_append_right (by omega)] at hi
        rw [List.getElem?_append_left h2] at hj
        have := hle _ _ hj
        have := hr _ _ hi
        omega
      · rw [List.getElem?_append_right (by omega)] at hi hj
        have := hr _ _ hi
        have := hr _ _ hj
        omega
    · by_cases h1 : k9 < W1.length
      · rw [List.getElem?_append_left h1] at hx
        exact hD1.2 k9 x hx
      · rw [List.getElem?_append_right (by omega)] at hx
        have := hr _ _ hx
        exact hA _ (by have := hS.1; omega)
  have hAr : ArrOfT s cA (.array ty) := fun N9 z9 => by
    obtain ⟨-, k9, hk9, cm9, hkk9⟩ := (hO 0 0 0).1
    exact ⟨(fun q hq => by cases hq), k9, hk9, cm9, hkk9⟩
  have hK2 : va_K D cl (tys ++ [(cA, .array ty)]) s := ⟨hK.1, fun k9 x hx => by
    by_cases hl : k9 < tys.length
    · rw [List.getElem?_append_left hl] at hx
      exact hK.2 k9 x hx
    · rw [List.getElem?_append_right (by omega)] at hx
      have h0 : k9 - tys.length < 1 := (List.getElem?_eq_some_iff.mp hx).1
      rw [show k9 - tys.length = 0 by omega] at hx
      cases hx
      exact ⟨hAr, fA⟩⟩
  obtain ⟨t, a1, b1⟩ := kk H.size (fun i => H.size + 1 + i) cA F.heap (fun i j _ _ h => by have h9 : H.size + 1 + i = H.size + 1 + j := h; omega) hnl hK2 (by rw [← vr_rows hnm]; exact vr_lay hP2) (by rw [← vr_rows hnm]; exact vr_layD hD2) ⟨by rw [f1]; have := hS.1; omega, fun x h1 h2 => (hold x (Nat.lt_of_lt_of_le h1 hS.1)).trans (hS.2.1 x h1 h2), hS.2.2⟩ F rfl X'
  refine ⟨t, step t ?_, b1⟩
  have e : T.heap.size = H.size := by rw [hT]
  rw [e]
  exact a1
end VGM
/-! ===== END ===== -/

def RX0 : String := "PoorDesk$Book"
def TX0 : u_T := fun k => match k with
  | 0 => ("PoorDesk$Book", "parishes", "LPoorDesk$Parishes;", true)
  | 1 => ("PoorDesk$Book", "persons", "LPoorDesk$Persons;", true)
  | 2 => ("PoorDesk$Book", "facts", "LPoorDesk$Facts;", true)
  | 3 => ("PoorDesk$Book", "laws", "LPoorDesk$Laws;", true)
  | 4 => ("PoorDesk$Book", "orders", "LPoorDesk$Orders;", true)
  | 5 => ("PoorDesk$Book", "poor", "LPoorDesk$Poor;", true)
  | _ => ("PoorDesk$Book", "term", "I", false)
def tyX0 : Nat → FieldType := fun k => match k with
  | 0 => .object "PoorDesk$Parishes"
  | 1 => .object "PoorDesk$Persons"
  | 2 => .object "PoorDesk$Facts"
  | 3 => .object "PoorDesk$Laws"
  | 4 => .object "PoorDesk$Orders"
  | 5 => .object "PoorDesk$Poor"
  | _ => .int
theorem nmX0 : ∀ a, a < 7 → ∀ b, b < 7 → a ≠ b → (TX0 a).2.1 ≠ (TX0 b).2.1 := by decide +kernel
theorem tyX0_ok : ∀ k, k < 7 → parseFieldDescriptor (TX0 k).2.2.1 = some (tyX0 k) := by decide +kernel
abbrev cX0_init : ByteArray := prog_2_method_1_code
def yX0_init : MethodName := ⟨RX0, "<init>", "()V"⟩
abbrev cX0_become : ByteArray := prog_2_method_2_code
def yX0_become : MethodName := ⟨RX0, "become", "(LPoorDesk$Book;)V"⟩
def RX1 : String := "PoorDesk$Facts"
def TX1 : u_T := fun k => match k with
  | 0 => ("PoorDesk$Facts", "count", "I", false)
  | 1 => ("PoorDesk$Facts", "kind", "[I", true)
  | 2 => ("PoorDesk$Facts", "person", "[I", true)
  | 3 => ("PoorDesk$Facts", "parish", "[I", true)
  | 4 => ("PoorDesk$Facts", "pounds", "[I", true)
  | 5 => ("PoorDesk$Facts", "from", "[I", true)
  | 6 => ("PoorDesk$Facts", "to", "[I", true)
  | 7 => ("PoorDesk$Facts", "known", "[I", true)
  | _ => ("PoorDesk$Facts", "doubted", "[I", true)
def tyX1 : Nat → FieldType := fun k => match k with
  | 0 => .int
  | 1 => .array .int
  | 2 => .array .int
  | 3 => .array .int
  | 4 => .array .int
  | 5 => .array .int
  | 6 => .array .int
  | 7 => .array .int
  | _ => .array .int
theorem nmX1 : ∀ a, a < 9 → ∀ b, b < 9 → a ≠ b → (TX1 a).2.1 ≠ (TX1 b).2.1 := by decide +kernel
theorem tyX1_ok : ∀ k, k < 9 → parseFieldDescriptor (TX1 k).2.2.1 = some (tyX1 k) := by decide +kernel
abbrev cX1_init : ByteArray := prog_3_method_1_code
def yX1_init : MethodName := ⟨RX1, "<init>", "()V"⟩
abbrev cX1_has : ByteArray := prog_3_method_2_code
def yX1_has : MethodName := ⟨RX1, "has", "(I)Z"⟩
abbrev cX1_add : ByteArray := prog_3_method_3_code
def yX1_add : MethodName := ⟨RX1, "add", "(IIIIIII)I"⟩
abbrev cX1_isDoubted : ByteArray := prog_3_method_4_code
def yX1_isDoubted : MethodName := ⟨RX1, "isDoubted", "(I)Z"⟩
abbrev cX1_countDoubted : ByteArray := prog_3_method_5_code
def yX1_countDoubted : MethodName := ⟨RX1, "countDoubted", "()I"⟩
abbrev cX1_become : ByteArray := prog_3_method_6_code
def yX1_become : MethodName := ⟨RX1, "become", "(LPoorDesk$Facts;)V"⟩
def RX2 : String := "PoorDesk$Laws"
def TX2 : u_T := fun k => match k with
  | 0 => ("PoorDesk$Laws", "count", "I", false)
  | 1 => ("PoorDesk$Laws", "kind", "[I", true)
  | 2 => ("PoorDesk$Laws", "number", "[I", true)
  | 3 => ("PoorDesk$Laws", "from", "[I", true)
  | _ => ("PoorDesk$Laws", "to", "[I", true)
def tyX2 : Nat → FieldType := fun k => match k with
  | 0 => .int
  | 1 => .array .int
  | 2 => .array .int
  | 3 => .array .int
  | _ => .array .int
theorem nmX2 : ∀ a, a < 5 → ∀ b, b < 5 → a ≠ b → (TX2 a).2.1 ≠ (TX2 b).2.1 := by decide +kernel
theorem tyX2_ok : ∀ k, k < 5 → parseFieldDescriptor (TX2 k).2.2.1 = some (tyX2 k) := by decide +kernel
abbrev cX2_init : ByteArray := prog_4_method_1_code
def yX2_init : MethodName := ⟨RX2, "<init>", "()V"⟩
abbrev cX2_has : ByteArray := prog_4_method_2_code
def yX2_has : MethodName := ⟨RX2, "has", "(I)Z"⟩
abbrev cX2_add : ByteArray := prog_4_method_3_code
def yX2_add : MethodName := ⟨RX2, "add", "(IIII)I"⟩
abbrev cX2_rules : ByteArray := prog_4_method_4_code
def yX2_rules : MethodName := ⟨RX2, "rules", "(III)Z"⟩
abbrev cX2_anyRules : ByteArray := prog_4_method_5_code
def yX2_anyRules : MethodName := ⟨RX2, "anyRules", "(II)Z"⟩
abbrev cX2_anyAtMost : ByteArray := prog_4_method_6_code
def yX2_anyAtMost : MethodName := ⟨RX2, "anyAtMost", "(III)Z"⟩
abbrev cX2_anyAbove : ByteArray := prog_4_method_7_code
def yX2_anyAbove : MethodName := ⟨RX2, "anyAbove", "(III)Z"⟩
abbrev cX2_become : ByteArray := prog_4_method_8_code
def yX2_become : MethodName := ⟨RX2, "become", "(LPoorDesk$Laws;)V"⟩
def RX3 : String := "PoorDesk$Orders"
def TX3 : u_T := fun k => match k with
  | 0 => ("PoorDesk$Orders", "count", "I", false)
  | 1 => ("PoorDesk$Orders", "person", "[I", true)
  | 2 => ("PoorDesk$Orders", "from", "[I", true)
  | 3 => ("PoorDesk$Orders", "to", "[I", true)
  | 4 => ("PoorDesk$Orders", "day", "[I", true)
  | 5 => ("PoorDesk$Orders", "costs", "[I", true)
  | _ => ("PoorDesk$Orders", "state", "[I", true)
def tyX3 : Nat → FieldType := fun k => match k with
  | 0 => .int
  | 1 => .array .int
  | 2 => .array .int
  | 3 => .array .int
  | 4 => .array .int
  | 5 => .array .int
  | _ => .array .int
theorem nmX3 : ∀ a, a < 7 → ∀ b, b < 7 → a ≠ b → (TX3 a).2.1 ≠ (TX3 b).2.1 := by decide +kernel
theorem tyX3_ok : ∀ k, k < 7 → parseFieldDescriptor (TX3 k).2.2.1 = some (tyX3 k) := by decide +kernel
abbrev cX3_init : ByteArray := prog_5_method_1_code
def yX3_init : MethodName := ⟨RX3, "<init>", "()V"⟩
abbrev cX3_has : ByteArray := prog_5_method_2_code
def yX3_has : MethodName := ⟨RX3, "has", "(I)Z"⟩
abbrev cX3_add : ByteArray := prog_5_method_3_code
def yX3_add : MethodName := ⟨RX3, "add", "(IIIII)I"⟩
abbrev cX3_borneBy : ByteArray := prog_5_method_4_code
def yX3_borneBy : MethodName := ⟨RX3, "borneBy", "(I)I"⟩
abbrev cX3_become : ByteArray := prog_5_method_5_code
def yX3_become : MethodName := ⟨RX3, "become", "(LPoorDesk$Orders;)V"⟩
def RX4 : String := "PoorDesk$Parishes"
def TX4 : u_T := fun k => match k with
  | 0 => ("PoorDesk$Parishes", "count", "I", false)
  | 1 => ("PoorDesk$Parishes", "worth", "[I", true)
  | _ => ("PoorDesk$Parishes", "miles", "[[I", true)
def tyX4 : Nat → FieldType := fun k => match k with
  | 0 => .int
  | 1 => .array .int
  | _ => .array (.array .int)
theorem nmX4 : ∀ a, a < 3 → ∀ b, b < 3 → a ≠ b → (TX4 a).2.1 ≠ (TX4 b).2.1 := by decide +kernel
theorem tyX4_ok : ∀ k, k < 3 → parseFieldDescriptor (TX4 k).2.2.1 = some (tyX4 k) := by decide +kernel
abbrev cX4_init : ByteArray := prog_6_method_1_code
def yX4_init : MethodName := ⟨RX4, "<init>", "()V"⟩
abbrev cX4_has : ByteArray := prog_6_method_2_code
def yX4_has : MethodName := ⟨RX4, "has", "(I)Z"⟩
abbrev cX4_add : ByteArray := prog_6_method_3_code
def yX4_add : MethodName := ⟨RX4, "add", "(I)I"⟩
abbrev cX4_allWorth : ByteArray := prog_6_method_4_code
def yX4_allWorth : MethodName := ⟨RX4, "allWorth", "()I"⟩
abbrev cX4_share : ByteArray := prog_6_method_5_code
def yX4_share : MethodName := ⟨RX4, "share", "(III)I"⟩
abbrev cX4_become : ByteArray := prog_6_method_6_code
def yX4_become : MethodName := ⟨RX4, "become", "(LPoorDesk$Parishes;)V"⟩
def RX5 : String := "PoorDesk$Persons"
def TX5 : u_T := fun k => match k with
  | 0 => ("PoorDesk$Persons", "count", "I", false)
  | 1 => ("PoorDesk$Persons", "kind", "[I", true)
  | 2 => ("PoorDesk$Persons", "birthplace", "[I", true)
  | 3 => ("PoorDesk$Persons", "born", "[I", true)
  | 4 => ("PoorDesk$Persons", "leader", "[I", true)
  | _ => ("PoorDesk$Persons", "married", "[I", true)
def tyX5 : Nat → FieldType := fun k => match k with
  | 0 => .int
  | 1 => .array .int
  | 2 => .array .int
  | 3 => .array .int
  | 4 => .array .int
  | _ => .array .int
theorem nmX5 : ∀ a, a < 6 → ∀ b, b < 6 → a ≠ b → (TX5 a).2.1 ≠ (TX5 b).2.1 := by decide +kernel
theorem tyX5_ok : ∀ k, k < 6 → parseFieldDescriptor (TX5 k).2.2.1 = some (tyX5 k) := by decide +kernel
abbrev cX5_init : ByteArray := prog_7_method_1_code
def yX5_init : MethodName := ⟨RX5, "<init>", "()V"⟩
abbrev cX5_has : ByteArray := prog_7_method_2_code
def yX5_has : MethodName := ⟨RX5, "has", "(I)Z"⟩
abbrev cX5_add : ByteArray := prog_7_method_3_code
def yX5_add : MethodName := ⟨RX5, "add", "(III)I"⟩
abbrev cX5_isOf : ByteArray := prog_7_method_4_code
def yX5_isOf : MethodName := ⟨RX5, "isOf", "(II)Z"⟩
abbrev cX5_comesTo : ByteArray := prog_7_method_5_code
def yX5_comesTo : MethodName := ⟨RX5, "comesTo", "(II)Z"⟩
abbrev cX5_follow : ByteArray := prog_7_method_6_code
def yX5_follow : MethodName := ⟨RX5, "follow", "(III)I"⟩
abbrev cX5_isWifeOf : ByteArray := prog_7_method_7_code
def yX5_isWifeOf : MethodName := ⟨RX5, "isWifeOf", "(II)Z"⟩
abbrev cX5_become : ByteArray := prog_7_method_8_code
def yX5_become : MethodName := ⟨RX5, "become", "(LPoorDesk$Persons;)V"⟩
def RX6 : String := "PoorDesk$Poor"
def TX6 : u_T := fun k => match k with
  | 0 => ("PoorDesk$Poor", "scale", "I", false)
  | 1 => ("PoorDesk$Poor", "list", "[I", true)
  | 2 => ("PoorDesk$Poor", "since", "[I", true)
  | 3 => ("PoorDesk$Poor", "earned", "[I", true)
  | _ => ("PoorDesk$Poor", "prices", "[I", true)
def tyX6 : Nat → FieldType := fun k => match k with
  | 0 => .int
  | 1 => .array .int
  | 2 => .array .int
  | 3 => .array .int
  | _ => .array .int
theorem nmX6 : ∀ a, a < 5 → ∀ b, b < 5 → a ≠ b → (TX6 a).2.1 ≠ (TX6 b).2.1 := by decide +kernel
theorem tyX6_ok : ∀ k, k < 5 → parseFieldDescriptor (TX6 k).2.2.1 = some (tyX6 k) := by decide +kernel
abbrev cX6_init : ByteArray := prog_8_method_1_code
def yX6_init : MethodName := ⟨RX6, "<init>", "()V"⟩
abbrev cX6_enter : ByteArray := prog_8_method_2_code
def yX6_enter : MethodName := ⟨RX6, "enter", "(I)V"⟩
abbrev cX6_listIn : ByteArray := prog_8_method_3_code
def yX6_listIn : MethodName := ⟨RX6, "listIn", "(II)I"⟩
abbrev cX6_reliefOf : ByteArray := prog_8_method_4_code
def yX6_reliefOf : MethodName := ⟨RX6, "reliefOf", "(LPoorDesk$Persons;II)I"⟩
abbrev cX6_isKeptByHusband : ByteArray := prog_8_method_5_code
def yX6_isKeptByHusband : MethodName := ⟨RX6, "isKeptByHusband", "(LPoorDesk$Persons;II)Z"⟩
abbrev cX6_reliefOfAll : ByteArray := prog_8_method_6_code
def yX6_reliefOfAll : MethodName := ⟨RX6, "reliefOfAll", "(LPoorDesk$Persons;II)I"⟩
abbrev cX6_readPrices : ByteArray := prog_8_method_7_code
def yX6_readPrices : MethodName := ⟨RX6, "readPrices", "(LPoorDesk$Sheet;)I"⟩
abbrev cX6_become : ByteArray := prog_8_method_8_code
def yX6_become : MethodName := ⟨RX6, "become", "(LPoorDesk$Poor;)V"⟩
def RX7 : String := "PoorDesk$Reckoner"
def TX7 : u_T := fun k => match k with
  | 0 => ("PoorDesk$Reckoner", "book", "LPoorDesk$Book;", true)
  | 1 => ("PoorDesk$Reckoner", "gainDay", "[I", true)
  | 2 => ("PoorDesk$Reckoner", "line", "[I", true)
  | 3 => ("PoorDesk$Reckoner", "birthDay", "[I", true)
  | 4 => ("PoorDesk$Reckoner", "gainOfTurn", "[I", true)
  | 5 => ("PoorDesk$Reckoner", "bitOfTurn", "[I", true)
  | 6 => ("PoorDesk$Reckoner", "lineLength", "I", false)
  | _ => ("PoorDesk$Reckoner", "turns", "I", false)
def tyX7 : Nat → FieldType := fun k => match k with
  | 0 => .object "PoorDesk$Book"
  | 1 => .array .int
  | 2 => .array .int
  | 3 => .array .int
  | 4 => .array .int
  | 5 => .array .int
  | 6 => .int
  | _ => .int
theorem nmX7 : ∀ a, a < 8 → ∀ b, b < 8 → a ≠ b → (TX7 a).2.1 ≠ (TX7 b).2.1 := by decide +kernel
theorem tyX7_ok : ∀ k, k < 8 → parseFieldDescriptor (TX7 k).2.2.1 = some (tyX7 k) := by decide +kernel
abbrev cX7_init : ByteArray := prog_9_method_1_code
def yX7_init : MethodName := ⟨RX7, "<init>", "(LPoorDesk$Book;)V"⟩
abbrev cX7_ownOf : ByteArray := prog_9_method_2_code
def yX7_ownOf : MethodName := ⟨RX7, "ownOf", "(III)I"⟩
abbrev cX7_settlementOf : ByteArray := prog_9_method_3_code
def yX7_settlementOf : MethodName := ⟨RX7, "settlementOf", "(III)I"⟩
abbrev cX7_tellerOf : ByteArray := prog_9_method_4_code
def yX7_tellerOf : MethodName := ⟨RX7, "tellerOf", "(III)I"⟩
abbrev cX7_couldBe : ByteArray := prog_9_method_5_code
def yX7_couldBe : MethodName := ⟨RX7, "couldBe", "(III)I"⟩
abbrev cX7_bestQuestion : ByteArray := prog_9_method_6_code
def yX7_bestQuestion : MethodName := ⟨RX7, "bestQuestion", "(III)I"⟩
abbrev cX7_prepare : ByteArray := prog_9_method_7_code
def yX7_prepare : MethodName := ⟨RX7, "prepare", "(III)V"⟩
abbrev cX7_gainByFact : ByteArray := prog_9_method_8_code
def yX7_gainByFact : MethodName := ⟨RX7, "gainByFact", "(II)I"⟩
abbrev cX7_gainByBirth : ByteArray := prog_9_method_9_code
def yX7_gainByBirth : MethodName := ⟨RX7, "gainByBirth", "(II)I"⟩
abbrev cX7_leaderOf : ByteArray := prog_9_method_10_code
def yX7_leaderOf : MethodName := ⟨RX7, "leaderOf", "(II)I"⟩
abbrev cX7_latestGain : ByteArray := prog_9_method_11_code
def yX7_latestGain : MethodName := ⟨RX7, "latestGain", "(II)I"⟩
abbrev cX7_parishBy : ByteArray := prog_9_method_12_code
def yX7_parishBy : MethodName := ⟨RX7, "parishBy", "(II)I"⟩
abbrev cX7_teller : ByteArray := prog_9_method_13_code
def yX7_teller : MethodName := ⟨RX7, "teller", "(I)I"⟩
abbrev cX7_takeTurns : ByteArray := prog_9_method_14_code
def yX7_takeTurns : MethodName := ⟨RX7, "takeTurns", "()V"⟩
abbrev cX7_mostLeftBy : ByteArray := prog_9_method_15_code
def yX7_mostLeftBy : MethodName := ⟨RX7, "mostLeftBy", "(I)I"⟩
abbrev cX7_setUpTo : ByteArray := prog_9_method_16_code
def yX7_setUpTo : MethodName := ⟨RX7, "setUpTo", "(I)I"⟩
abbrev cX7_setWithout : ByteArray := prog_9_method_17_code
def yX7_setWithout : MethodName := ⟨RX7, "setWithout", "(I)I"⟩
def RX8 : String := "PoorDesk$Sheet"
def TX8 : u_T := fun k => match k with
  | 0 => ("PoorDesk$Sheet", "bits", "I", false)
  | 1 => ("PoorDesk$Sheet", "length", "I", false)
  | _ => ("PoorDesk$Sheet", "numbers", "[I", true)
def tyX8 : Nat → FieldType := fun k => match k with
  | 0 => .int
  | 1 => .int
  | _ => .array .int
theorem nmX8 : ∀ a, a < 3 → ∀ b, b < 3 → a ≠ b → (TX8 a).2.1 ≠ (TX8 b).2.1 := by decide +kernel
theorem tyX8_ok : ∀ k, k < 3 → parseFieldDescriptor (TX8 k).2.2.1 = some (tyX8 k) := by decide +kernel
abbrev cX8_init : ByteArray := prog_10_method_1_code
def yX8_init : MethodName := ⟨RX8, "<init>", "()V"⟩
abbrev cX8_isMissing : ByteArray := prog_10_method_2_code
def yX8_isMissing : MethodName := ⟨RX8, "isMissing", "()Z"⟩
abbrev cX8_lay : ByteArray := prog_10_method_3_code
def yX8_lay : MethodName := ⟨RX8, "lay", "(II)V"⟩
abbrev cX8_write : ByteArray := prog_10_method_4_code
def yX8_write : MethodName := ⟨RX8, "write", "(II)V"⟩
abbrev cX8_hasRun : ByteArray := prog_10_method_5_code
def yX8_hasRun : MethodName := ⟨RX8, "hasRun", "(II)Z"⟩
def RX9 : String := "PoorDesk"
def TX9 : u_T := fun k => match k with
  | 0 => ("PoorDesk", "book", "LPoorDesk$Book;", true)
  | 1 => ("PoorDesk", "kept", "LPoorDesk$Book;", true)
  | 2 => ("PoorDesk", "reckoner", "LPoorDesk$Reckoner;", true)
  | 3 => ("PoorDesk", "sheets", "[LPoorDesk$Sheet;", true)
  | 4 => ("PoorDesk", "isKept", "Z", false)
  | _ => ("PoorDesk", "findings", "I", false)
def tyX9 : Nat → FieldType := fun k => match k with
  | 0 => .object "PoorDesk$Book"
  | 1 => .object "PoorDesk$Book"
  | 2 => .object "PoorDesk$Reckoner"
  | 3 => .array (.object "PoorDesk$Sheet")
  | 4 => .boolean
  | _ => .int
theorem nmX9 : ∀ a, a < 6 → ∀ b, b < 6 → a ≠ b → (TX9 a).2.1 ≠ (TX9 b).2.1 := by decide +kernel
theorem tyX9_ok : ∀ k, k < 6 → parseFieldDescriptor (TX9 k).2.2.1 = some (tyX9 k) := by decide +kernel
abbrev cX9_init : ByteArray := prog_1_method_1_code
def yX9_init : MethodName := ⟨RX9, "<init>", "()V"⟩
abbrev cX9_parish : ByteArray := prog_1_method_2_code
def yX9_parish : MethodName := ⟨RX9, "parish", "(I)I"⟩
abbrev cX9_miles : ByteArray := prog_1_method_3_code
def yX9_miles : MethodName := ⟨RX9, "miles", "(III)I"⟩
abbrev cX9_person : ByteArray := prog_1_method_4_code
def yX9_person : MethodName := ⟨RX9, "person", "(III)I"⟩
abbrev cX9_as : ByteArray := prog_1_method_5_code
def yX9_as : MethodName := ⟨RX9, "as", "(II)I"⟩
abbrev cX9_husband : ByteArray := prog_1_method_6_code
def yX9_husband : MethodName := ⟨RX9, "husband", "(III)I"⟩
abbrev cX9_father : ByteArray := prog_1_method_7_code
def yX9_father : MethodName := ⟨RX9, "father", "(II)I"⟩
abbrev cX9_fact : ByteArray := prog_1_method_8_code
def yX9_fact : MethodName := ⟨RX9, "fact", "(IIIIIII)I"⟩
abbrev cX9_doubt : ByteArray := prog_1_method_9_code
def yX9_doubt : MethodName := ⟨RX9, "doubt", "(IZ)I"⟩
abbrev cX9_forget : ByteArray := prog_1_method_10_code
def yX9_forget : MethodName := ⟨RX9, "forget", "()I"⟩
abbrev cX9_law : ByteArray := prog_1_method_11_code
def yX9_law : MethodName := ⟨RX9, "law", "(IIII)I"⟩
abbrev cX9_ends : ByteArray := prog_1_method_12_code
def yX9_ends : MethodName := ⟨RX9, "ends", "(II)I"⟩
abbrev cX9_own : ByteArray := prog_1_method_13_code
def yX9_own : MethodName := ⟨RX9, "own", "(III)I"⟩
abbrev cX9_settlement : ByteArray := prog_1_method_14_code
def yX9_settlement : MethodName := ⟨RX9, "settlement", "(III)I"⟩
abbrev cX9_through : ByteArray := prog_1_method_15_code
def yX9_through : MethodName := ⟨RX9, "through", "(III)I"⟩
abbrev cX9_could : ByteArray := prog_1_method_16_code
def yX9_could : MethodName := ⟨RX9, "could", "(III)I"⟩
abbrev cX9_question : ByteArray := prog_1_method_17_code
def yX9_question : MethodName := ⟨RX9, "question", "(III)I"⟩
abbrev cX9_order : ByteArray := prog_1_method_18_code
def yX9_order : MethodName := ⟨RX9, "order", "(IIII)I"⟩
abbrev cX9_appeal : ByteArray := prog_1_method_19_code
def yX9_appeal : MethodName := ⟨RX9, "appeal", "(II)I"⟩
abbrev cX9_ordered : ByteArray := prog_1_method_20_code
def yX9_ordered : MethodName := ⟨RX9, "ordered", "(II)I"⟩
abbrev cX9_costs : ByteArray := prog_1_method_21_code
def yX9_costs : MethodName := ⟨RX9, "costs", "(I)I"⟩
abbrev cX9_set : ByteArray := prog_1_method_22_code
def yX9_set : MethodName := ⟨RX9, "set", "(II)I"⟩
abbrev cX9_list : ByteArray := prog_1_method_23_code
def yX9_list : MethodName := ⟨RX9, "list", "(III)I"⟩
abbrev cX9_earns : ByteArray := prog_1_method_24_code
def yX9_earns : MethodName := ⟨RX9, "earns", "(II)I"⟩
abbrev cX9_price : ByteArray := prog_1_method_25_code
def yX9_price : MethodName := ⟨RX9, "price", "(II)I"⟩
abbrev cX9_relief : ByteArray := prog_1_method_26_code
def yX9_relief : MethodName := ⟨RX9, "relief", "(II)I"⟩
abbrev cX9_week : ByteArray := prog_1_method_27_code
def yX9_week : MethodName := ⟨RX9, "week", "(II)I"⟩
abbrev cX9_rate : ByteArray := prog_1_method_28_code
def yX9_rate : MethodName := ⟨RX9, "rate", "(II)I"⟩
abbrev cX9_sheet : ByteArray := prog_1_method_29_code
def yX9_sheet : MethodName := ⟨RX9, "sheet", "(III)I"⟩
abbrev cX9_put : ByteArray := prog_1_method_30_code
def yX9_put : MethodName := ⟨RX9, "put", "(III)I"⟩
abbrev cX9_copy : ByteArray := prog_1_method_31_code
def yX9_copy : MethodName := ⟨RX9, "copy", "(IIIII)I"⟩
abbrev cX9_read : ByteArray := prog_1_method_32_code
def yX9_read : MethodName := ⟨RX9, "read", "(I)I"⟩
abbrev cX9_keep : ByteArray := prog_1_method_33_code
def yX9_keep : MethodName := ⟨RX9, "keep", "()I"⟩
abbrev cX9_back : ByteArray := prog_1_method_34_code
def yX9_back : MethodName := ⟨RX9, "back", "()I"⟩
abbrev cX9_told : ByteArray := prog_1_method_35_code
def yX9_told : MethodName := ⟨RX9, "told", "(I)I"⟩
abbrev cX9_finding : ByteArray := prog_1_method_36_code
def yX9_finding : MethodName := ⟨RX9, "finding", "(I)I"⟩
abbrev cX9_parishOrNone : ByteArray := prog_1_method_37_code
def yX9_parishOrNone : MethodName := ⟨RX9, "parishOrNone", "(I)I"⟩
abbrev cX9_canReckon : ByteArray := prog_1_method_38_code
def yX9_canReckon : MethodName := ⟨RX9, "canReckon", "(III)Z"⟩
abbrev cX9_within : ByteArray := prog_1_method_39_code
def yX9_within : MethodName := ⟨RX9, "within", "(III)Z"⟩
abbrev cX9_isDay : ByteArray := prog_1_method_40_code
def yX9_isDay : MethodName := ⟨RX9, "isDay", "(I)Z"⟩
abbrev cX9_isWeek : ByteArray := prog_1_method_41_code
def yX9_isWeek : MethodName := ⟨RX9, "isWeek", "(I)Z"⟩
abbrev cX9_isSheet : ByteArray := prog_1_method_42_code
def yX9_isSheet : MethodName := ⟨RX9, "isSheet", "(I)Z"⟩
abbrev cX9_hasNumber : ByteArray := prog_1_method_43_code
def yX9_hasNumber : MethodName := ⟨RX9, "hasNumber", "(I)Z"⟩
abbrev cX9_copyRow : ByteArray := prog_1_method_44_code
def yX9_copyRow : MethodName := ⟨RX9, "copyRow", "([I[I)V"⟩
def RX10 : String := "PoorDeskModel"
def TX10 : u_T := fun k => match k with
  | 0 => ("PoorDeskModel", "now", "[I", true)
  | 1 => ("PoorDeskModel", "kept", "[I", true)
  | 2 => ("PoorDeskModel", "isKept", "Z", false)
  | 3 => ("PoorDeskModel", "findings", "I", false)
  | 4 => ("PoorDeskModel", "bits", "[I", true)
  | 5 => ("PoorDeskModel", "sizes", "[I", true)
  | 6 => ("PoorDeskModel", "sheets", "[I", true)
  | 7 => ("PoorDeskModel", "notSo", "I", false)
  | 8 => ("PoorDeskModel", "chain", "[I", true)
  | 9 => ("PoorDeskModel", "teller", "I", false)
  | 10 => ("PoorDeskModel", "doubted", "[I", true)
  | 11 => ("PoorDeskModel", "outcome", "[I", true)
  | _ => ("PoorDeskModel", "carried", "[I", true)
def tyX10 : Nat → FieldType := fun k => match k with
  | 0 => .array .int
  | 1 => .array .int
  | 2 => .boolean
  | 3 => .int
  | 4 => .array .int
  | 5 => .array .int
  | 6 => .array .int
  | 7 => .int
  | 8 => .array .int
  | 9 => .int
  | 10 => .array .int
  | 11 => .array .int
  | _ => .array .int
theorem nmX10 : ∀ a, a < 13 → ∀ b, b < 13 → a ≠ b → (TX10 a).2.1 ≠ (TX10 b).2.1 := by decide +kernel
theorem tyX10_ok : ∀ k, k < 13 → parseFieldDescriptor (TX10 k).2.2.1 = some (tyX10 k) := by decide +kernel
abbrev cX10_init : ByteArray := prog_12_method_1_code
def yX10_init : MethodName := ⟨RX10, "<init>", "()V"⟩
abbrev cX10_finding : ByteArray := prog_12_method_2_code
def yX10_finding : MethodName := ⟨RX10, "finding", "(I)I"⟩
abbrev cX10_within : ByteArray := prog_12_method_3_code
def yX10_within : MethodName := ⟨RX10, "within", "(III)Z"⟩
abbrev cX10_isDay : ByteArray := prog_12_method_4_code
def yX10_isDay : MethodName := ⟨RX10, "isDay", "(I)Z"⟩
abbrev cX10_isWeek : ByteArray := prog_12_method_5_code
def yX10_isWeek : MethodName := ⟨RX10, "isWeek", "(I)Z"⟩
abbrev cX10_isParish : ByteArray := prog_12_method_6_code
def yX10_isParish : MethodName := ⟨RX10, "isParish", "(I)Z"⟩
abbrev cX10_isPerson : ByteArray := prog_12_method_7_code
def yX10_isPerson : MethodName := ⟨RX10, "isPerson", "(I)Z"⟩
abbrev cX10_parish : ByteArray := prog_12_method_8_code
def yX10_parish : MethodName := ⟨RX10, "parish", "(I)I"⟩
abbrev cX10_miles : ByteArray := prog_12_method_9_code
def yX10_miles : MethodName := ⟨RX10, "miles", "(III)I"⟩
abbrev cX10_person : ByteArray := prog_12_method_10_code
def yX10_person : MethodName := ⟨RX10, "person", "(III)I"⟩
abbrev cX10_as : ByteArray := prog_12_method_11_code
def yX10_as : MethodName := ⟨RX10, "as", "(II)I"⟩
abbrev cX10_link : ByteArray := prog_12_method_12_code
def yX10_link : MethodName := ⟨RX10, "link", "(III)I"⟩
abbrev cX10_husband : ByteArray := prog_12_method_13_code
def yX10_husband : MethodName := ⟨RX10, "husband", "(III)I"⟩
abbrev cX10_father : ByteArray := prog_12_method_14_code
def yX10_father : MethodName := ⟨RX10, "father", "(II)I"⟩
abbrev cX10_fact : ByteArray := prog_12_method_15_code
def yX10_fact : MethodName := ⟨RX10, "fact", "(IIIIIII)I"⟩
abbrev cX10_doubts : ByteArray := prog_12_method_16_code
def yX10_doubts : MethodName := ⟨RX10, "doubts", "()I"⟩
abbrev cX10_doubt : ByteArray := prog_12_method_17_code
def yX10_doubt : MethodName := ⟨RX10, "doubt", "(IZ)I"⟩
abbrev cX10_forget : ByteArray := prog_12_method_18_code
def yX10_forget : MethodName := ⟨RX10, "forget", "()I"⟩
abbrev cX10_law : ByteArray := prog_12_method_19_code
def yX10_law : MethodName := ⟨RX10, "law", "(IIII)I"⟩
abbrev cX10_ends : ByteArray := prog_12_method_20_code
def yX10_ends : MethodName := ⟨RX10, "ends", "(II)I"⟩
abbrev cX10_isForce : ByteArray := prog_12_method_21_code
def yX10_isForce : MethodName := ⟨RX10, "isForce", "(III)Z"⟩
abbrev cX10_hasLaw : ByteArray := prog_12_method_22_code
def yX10_hasLaw : MethodName := ⟨RX10, "hasLaw", "(III)Z"⟩
abbrev cX10_ownOf : ByteArray := prog_12_method_23_code
def yX10_ownOf : MethodName := ⟨RX10, "ownOf", "(III)I"⟩
abbrev cX10_goesBy : ByteArray := prog_12_method_24_code
def yX10_goesBy : MethodName := ⟨RX10, "goesBy", "(II)Z"⟩
abbrev cX10_settlementOf : ByteArray := prog_12_method_25_code
def yX10_settlementOf : MethodName := ⟨RX10, "settlementOf", "(III)I"⟩
abbrev cX10_canAsk : ByteArray := prog_12_method_26_code
def yX10_canAsk : MethodName := ⟨RX10, "canAsk", "(III)Z"⟩
abbrev cX10_own : ByteArray := prog_12_method_27_code
def yX10_own : MethodName := ⟨RX10, "own", "(III)I"⟩
abbrev cX10_settlement : ByteArray := prog_12_method_28_code
def yX10_settlement : MethodName := ⟨RX10, "settlement", "(III)I"⟩
abbrev cX10_through : ByteArray := prog_12_method_29_code
def yX10_through : MethodName := ⟨RX10, "through", "(III)I"⟩
abbrev cX10_findOutcomes : ByteArray := prog_12_method_30_code
def yX10_findOutcomes : MethodName := ⟨RX10, "findOutcomes", "(III)I"⟩
abbrev cX10_could : ByteArray := prog_12_method_31_code
def yX10_could : MethodName := ⟨RX10, "could", "(III)I"⟩
abbrev cX10_many : ByteArray := prog_12_method_32_code
def yX10_many : MethodName := ⟨RX10, "many", "(I)I"⟩
abbrev cX10_question : ByteArray := prog_12_method_33_code
def yX10_question : MethodName := ⟨RX10, "question", "(III)I"⟩
abbrev cX10_order : ByteArray := prog_12_method_34_code
def yX10_order : MethodName := ⟨RX10, "order", "(IIII)I"⟩
abbrev cX10_isOrder : ByteArray := prog_12_method_35_code
def yX10_isOrder : MethodName := ⟨RX10, "isOrder", "(I)Z"⟩
abbrev cX10_appeal : ByteArray := prog_12_method_36_code
def yX10_appeal : MethodName := ⟨RX10, "appeal", "(II)I"⟩
abbrev cX10_ordered : ByteArray := prog_12_method_37_code
def yX10_ordered : MethodName := ⟨RX10, "ordered", "(II)I"⟩
abbrev cX10_costs : ByteArray := prog_12_method_38_code
def yX10_costs : MethodName := ⟨RX10, "costs", "(I)I"⟩
abbrev cX10_set : ByteArray := prog_12_method_39_code
def yX10_set : MethodName := ⟨RX10, "set", "(II)I"⟩
abbrev cX10_list : ByteArray := prog_12_method_40_code
def yX10_list : MethodName := ⟨RX10, "list", "(III)I"⟩
abbrev cX10_earns : ByteArray := prog_12_method_41_code
def yX10_earns : MethodName := ⟨RX10, "earns", "(II)I"⟩
abbrev cX10_price : ByteArray := prog_12_method_42_code
def yX10_price : MethodName := ⟨RX10, "price", "(II)I"⟩
abbrev cX10_listOf : ByteArray := prog_12_method_43_code
def yX10_listOf : MethodName := ⟨RX10, "listOf", "(II)I"⟩
abbrev cX10_isWifeOf : ByteArray := prog_12_method_44_code
def yX10_isWifeOf : MethodName := ⟨RX10, "isWifeOf", "(II)Z"⟩
abbrev cX10_reliefOf : ByteArray := prog_12_method_45_code
def yX10_reliefOf : MethodName := ⟨RX10, "reliefOf", "(II)I"⟩
abbrev cX10_relief : ByteArray := prog_12_method_46_code
def yX10_relief : MethodName := ⟨RX10, "relief", "(II)I"⟩
abbrev cX10_week : ByteArray := prog_12_method_47_code
def yX10_week : MethodName := ⟨RX10, "week", "(II)I"⟩
abbrev cX10_rate : ByteArray := prog_12_method_48_code
def yX10_rate : MethodName := ⟨RX10, "rate", "(II)I"⟩
abbrev cX10_isSheet : ByteArray := prog_12_method_49_code
def yX10_isSheet : MethodName := ⟨RX10, "isSheet", "(I)Z"⟩
abbrev cX10_sheet : ByteArray := prog_12_method_50_code
def yX10_sheet : MethodName := ⟨RX10, "sheet", "(III)I"⟩
abbrev cX10_put : ByteArray := prog_12_method_51_code
def yX10_put : MethodName := ⟨RX10, "put", "(III)I"⟩
abbrev cX10_copy : ByteArray := prog_12_method_52_code
def yX10_copy : MethodName := ⟨RX10, "copy", "(IIIII)I"⟩
abbrev cX10_read : ByteArray := prog_12_method_53_code
def yX10_read : MethodName := ⟨RX10, "read", "(I)I"⟩
abbrev cX10_keep : ByteArray := prog_12_method_54_code
def yX10_keep : MethodName := ⟨RX10, "keep", "()I"⟩
abbrev cX10_back : ByteArray := prog_12_method_55_code
def yX10_back : MethodName := ⟨RX10, "back", "()I"⟩
abbrev cX10_told : ByteArray := prog_12_method_56_code
def yX10_told : MethodName := ⟨RX10, "told", "(I)I"⟩
def RJ6 : String := "java/lang/Integer"
def TJ6 : u_T := fun k => match k with
  | _ => ("", "", "", false)
def tyJ6 : Nat → FieldType := fun k => match k with
  | _ => .int
theorem nmJ6 : ∀ a, a < 0 → ∀ b, b < 0 → a ≠ b → (TJ6 a).2.1 ≠ (TJ6 b).2.1 := by decide +kernel
theorem tyJ6_ok : ∀ k, k < 0 → parseFieldDescriptor (TJ6 k).2.2.1 = some (tyJ6 k) := by decide +kernel
abbrev cJ6_bitCount_0f7a4 : ByteArray := prog_13_method_49_code
def yJ6_bitCount_0f7a4 : MethodName := ⟨RJ6, "bitCount", "(I)I"⟩
def RJ9 : String := "java/lang/Math"
def TJ9 : u_T := fun k => match k with
  | _ => ("", "", "", false)
def tyJ9 : Nat → FieldType := fun k => match k with
  | _ => .int
theorem nmJ9 : ∀ a, a < 0 → ∀ b, b < 0 → a ≠ b → (TJ9 a).2.1 ≠ (TJ9 b).2.1 := by decide +kernel
theorem tyJ9_ok : ∀ k, k < 0 → parseFieldDescriptor (TJ9 k).2.2.1 = some (tyJ9 k) := by decide +kernel
abbrev cJ9_max_7cf53 : ByteArray := prog_14_method_65_code
def yJ9_max_7cf53 : MethodName := ⟨RJ9, "max", "(II)I"⟩
abbrev cJ9_min_7cf53 : ByteArray := prog_14_method_69_code
def yJ9_min_7cf53 : MethodName := ⟨RJ9, "min", "(II)I"⟩
def RJ10 : String := "java/lang/System"
def TJ10 : u_T := fun k => match k with
  | _ => ("", "", "", false)
def tyJ10 : Nat → FieldType := fun k => match k with
  | _ => .int
theorem nmJ10 : ∀ a, a < 0 → ∀ b, b < 0 → a ≠ b → (TJ10 a).2.1 ≠ (TJ10 b).2.1 := by decide +kernel
theorem tyJ10_ok : ∀ k, k < 0 → parseFieldDescriptor (TJ10 k).2.2.1 = some (tyJ10 k) := by decide +kernel
def RJ7 : String := "java/util/Arrays"
def TJ7 : u_T := fun k => match k with
  | _ => ("", "", "", false)
def tyJ7 : Nat → FieldType := fun k => match k with
  | _ => .int
theorem nmJ7 : ∀ a, a < 0 → ∀ b, b < 0 → a ≠ b → (TJ7 a).2.1 ≠ (TJ7 b).2.1 := by decide +kernel
theorem tyJ7_ok : ∀ k, k < 0 → parseFieldDescriptor (TJ7 k).2.2.1 = some (tyJ7 k) := by decide +kernel
abbrev cJ7_fill_53178 : ByteArray := prog_16_method_103_code
def yJ7_fill_53178 : MethodName := ⟨RJ7, "fill", "([II)V"⟩
def RL : String := "PoorDeskLaw"
abbrev cL_law : ByteArray := code
def yL_law : MethodName := ⟨RL, "law", "([I)Z"⟩
abbrev vwCl : List vw_C := [(RX0, TX0, 7), (RX1, TX1, 9), (RX2, TX2, 5), (RX3, TX3, 7), (RX4, TX4, 3), (RX5, TX5, 6), (RX6, TX6, 5), (RX7, TX7, 8), (RX8, TX8, 3), (RX9, TX9, 6), (RX10, TX10, 13)]
