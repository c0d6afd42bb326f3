/-! ===== calls over the one world ===== -/
section GC
variable {p : Program} {l : Launch} {e : Env} {R : Room} {s : State} {m : MethodId} {args : Array Value} {below : List Frame} {meth : Method} {c : Code} {H : Heap} {locs : List Loc} {cells slots : Nat} {Q : State → Prop}
variable {cc : ByteArray} {pc : Nat} {ls : Array Slot} {G : gPar} {σ σ' : gSt} {A0 : Nat → Prop} {r : Int32}
variable {own C : String} {y : MethodName} {bytes : ByteArray} {maxL index n nL fr lo k ci N : Nat} {ret : Option FieldType} {fs As rest st : List Value} {T : u_T}
theorem g_callV (hx : p.tables.exec = Jvm.exec) (hb : c.code = cc) (hml : c.maxLocals = nL) (hown : s.vm.findClass own = some m.cls) (ht : ∀ w ∈ gTb, w.before args s = true)
    (hM : gC l G y bytes maxL ret fr lo (.ref (G.2.2.1 k) :: As) σ r σ') (w1 : Cond.methodLink own index y ∈ gTb) (w2 : Cond.instanceMethod y ∈ gTb) (w3 : Cond.selects C y y ∈ gTb) (w4 : Cond.initialized C ∈ gTb) (w5 : Cond.code y bytes maxL ret ∈ gTb)
    (hd : y.cls = C ∧ y.cls ≠ "java/lang/invoke/MethodHandle" ∧ y.cls ≠ "java/lang/invoke/VarHandle" ∧ (parseMethodDescriptor y.desc).map (fun d => d.parameters.length) = some n)
    (hk : k < gN) (he : gE G k (σ k) = .inr (ci, fs)) (hc : vwCl[ci]? = some (C, T, N)) (hE : gEnv G s) (hP : gW G σ H) (hS : va_S A0 s.heap H locs) (hA : ∀ q, gA G q → A0 q) (hA2 : ∀ q, q < s.heap.size → ¬ gA G q → ¬ A0 q)
    (hn : As.length = n) (hsize : ls.size = nL) (hstack : st = As.reverse ++ .ref (G.2.2.1 k) :: rest) (hW : (rest.map fun v => v.category).sum ≤ 8) (hdg : decode cc pc = .ok (.invokevirtual index, 3))
    (hR : fr + 1 ≤ R.frames ∧ 8 + (maxL + 11) + lo ≤ R.locals) (hf : cells ≤ R.cells ∧ slots ≤ R.slots)
    (kk : ∀ (H1 : Heap) (locs1 : List Loc), gW G σ' H1 → va_S A0 s.heap H1 locs1 → W p l e R s m args below meth c H1 locs1 cells slots Q (F0 m (pc + 3) ls (.int r :: rest))) : W p l e R s m args below meth c H locs cells slots Q (F0 m pc ls st) := by
  refine va_calli (va_runV (g := F0 m pc ls st) (rest := rest) ⟨hx, hb, hml, hown, ht⟩ hM (cwV n ht (g_goodV w1 w2 w3 w4 w5) rfl rfl rfl hd hR) ⟨gPc_blind, g_recv hE hP hk he hc, fun U hU hWm => ⟨rfl, hE.go hS hA2 hWm hU, by rw [hU]; exact hP⟩⟩ rfl hn hsize hstack (lv_room hW) hdg hf) hS (fun q _ h => hA q h) hA (fun r1 u t H1 locs1 ht1 hvm hw hB hz hk1 hS1 => ?_)
  obtain ⟨rfl, rfl⟩ := hw
  exact kk H1 locs1 (by rw [← ht1]; exact hB.2) hS1
theorem g_callVv (hx : p.tables.exec = Jvm.exec) (hb : c.code = cc) (hml : c.maxLocals = nL) (hown : s.vm.findClass own = some m.cls) (ht : ∀ w ∈ gTb, w.before args s = true)
    (hM : gV l G y bytes maxL fr lo (.ref (G.2.2.1 k) :: As) σ σ') (w1 : Cond.methodLink own index y ∈ gTb) (w2 : Cond.instanceMethod y ∈ gTb) (w3 : Cond.selects C y y ∈ gTb) (w4 : Cond.initialized C ∈ gTb) (w5 : Cond.code y bytes maxL none ∈ gTb)
    (hd : y.cls = C ∧ y.cls ≠ "java/lang/invoke/MethodHandle" ∧ y.cls ≠ "java/lang/invoke/VarHandle" ∧ (parseMethodDescriptor y.desc).map (fun d => d.parameters.length) = some n)
    (hk : k < gN) (he : gE G k (σ k) = .inr (ci, fs)) (hc : vwCl[ci]? = some (C, T, N)) (hE : gEnv G s) (hP : gW G σ H) (hS : va_S A0 s.heap H locs) (hA : ∀ q, gA G q → A0 q) (hA2 : ∀ q, q < s.heap.size → ¬ gA G q → ¬ A0 q)
    (hn : As.length = n) (hsize : ls.size = nL) (hstack : st = As.reverse ++ .ref (G.2.2.1 k) :: rest) (hW : (rest.map fun v => v.category).sum ≤ 8) (hdg : decode cc pc = .ok (.invokevirtual index, 3))
    (hR : fr + 1 ≤ R.frames ∧ 8 + (maxL + 11) + lo ≤ R.locals) (hf : cells ≤ R.cells ∧ slots ≤ R.slots)
    (kk : ∀ (H1 : Heap) (locs1 : List Loc), gW G σ' H1 → va_S A0 s.heap H1 locs1 → W p l e R s m args below meth c H1 locs1 cells slots Q (F0 m (pc + 3) ls rest)) : W p l e R s m args below meth c H locs cells slots Q (F0 m pc ls st) := by
  refine va_callv (va_runV (g := F0 m pc ls st) (rest := rest) ⟨hx, hb, hml, hown, ht⟩ hM (cwV n ht (g_goodV w1 w2 w3 w4 w5) rfl rfl rfl hd hR) ⟨gPc_blind, g_recv hE hP hk he hc, fun U hU hWm => ⟨rfl, hE.go hS hA2 hWm hU, by rw [hU]; exact hP⟩⟩ rfl hn hsize hstack (lv_room hW) hdg hf) hS (fun q _ h => hA q h) hA (fun u t H1 locs1 ht1 hvm hw hB hz hk1 hS1 => ?_)
  subst hw
  exact kk H1 locs1 (by rw [← ht1]; exact hB.2) hS1
theorem g_goodS {own : String} {index : Nat} {y : MethodName} {bytes : ByteArray} {maxL : Nat} {ret : Option FieldType} (h1 : Cond.methodLink own index y ∈ gTb) (h2 : Cond.static y ∈ gTb) (h4 : Cond.initialized y.cls ∈ gTb) (h5 : Cond.code y bytes maxL ret ∈ gTb) : GoodIn gTb (va_wsS own index y (.code y bytes maxL ret :: gTb)) := by
  intro w hw
  have hm : w ∈ gTb := by
    simp only [va_wsS, List.cons_append, List.nil_append, List.mem_cons] at hw
    rcases hw with rfl | rfl | rfl | rfl | hw
    · exact h1
    · exact h2
    · exact h4
    · exact h5
    · exact hw
  exact ⟨hm, gTb_good hm⟩
theorem g_callS (hx : p.tables.exec = Jvm.exec) (hb : c.code = cc) (hml : c.maxLocals = nL) (hown : s.vm.findClass own = some m.cls) (ht : ∀ w ∈ gTb, w.before args s = true)
    (hM : gC l G y bytes maxL ret fr lo As σ r σ') (w1 : Cond.methodLink own index y ∈ gTb) (w2 : Cond.static y ∈ gTb) (w4 : Cond.initialized y.cls ∈ gTb) (w5 : Cond.code y bytes maxL ret ∈ gTb)
    (hd : y.cls ≠ "java/lang/invoke/MethodHandle" ∧ y.cls ≠ "java/lang/invoke/VarHandle" ∧ (parseMethodDescriptor y.desc).map (fun d => d.parameters.length) = some n)
    (hE : gEnv G s) (hP : gW G σ H) (hS : va_S A0 s.heap H locs) (hA : ∀ q, gA G q → A0 q) (hA2 : ∀ q, q < s.heap.size → ¬ gA G q → ¬ A0 q)
    (hn : As.length = n) (hsize : ls.size = nL) (hstack : st = As.reverse ++ rest) (hW : (rest.map fun v => v.category).sum ≤ 8) (hdg : decode cc pc = .ok (.invokestatic index, 3))
    (hR : fr + 1 ≤ R.frames ∧ 8 + (maxL + 11) + lo ≤ R.locals) (hf : cells ≤ R.cells ∧ slots ≤ R.slots)
    (kk : ∀ (H1 : Heap) (locs1 : List Loc), gW G σ' H1 → va_S A0 s.heap H1 locs1 → W p l e R s m args below meth c H1 locs1 cells slots Q (F0 m (pc + 3) ls (.int r :: rest))) : W p l e R s m args below meth c H locs cells slots Q (F0 m pc ls st) := by
  refine va_calli (va_runS (g := F0 m pc ls st) (rest := rest) ⟨hx, hb, hml, hown, ht⟩ hM (va_cwS n ht (g_goodS w1 w2 w4 w5) rfl rfl rfl hd hR) ⟨gPc_blind, fun U hU hWm => ⟨rfl, hE.go hS hA2 hWm hU, by rw [hU]; exact hP⟩⟩ rfl hn hsize hstack (lv_room hW) hdg hf) hS (fun q _ h => hA q h) hA (fun r1 u t H1 locs1 ht1 hvm hw hB hz hk1 hS1 => ?_)
  obtain ⟨rfl, rfl⟩ := hw
  exact kk H1 locs1 (by rw [← ht1]; exact hB.2) hS1
theorem g_callSv (hx : p.tables.exec = Jvm.exec) (hb : c.code = cc) (hml : c.maxLocals = nL) (hown : s.vm.findClass own = some m.cls) (ht : ∀ w ∈ gTb, w.before args s = true)
    (hM : gV l G y bytes maxL fr lo As σ σ') (w1 : Cond.methodLink own index y ∈ gTb) (w2 : Cond.static y ∈ gTb) (w4 : Cond.initialized y.cls ∈ gTb) (w5 : Cond.code y bytes maxL none ∈ gTb)
    (hd : y.cls ≠ "java/lang/invoke/MethodHandle" ∧ y.cls ≠ "java/lang/invoke/VarHandle" ∧ (parseMethodDescriptor y.desc).map (fun d => d.parameters.length) = some n)
    (hE : gEnv G s) (hP : gW G σ H) (hS : va_S A0 s.heap H locs) (hA : ∀ q, gA G q → A0 q) (hA2 : ∀ q, q < s.heap.size → ¬ gA G q → ¬ A0 q)
    (hn : As.length = n) (hsize : ls.size = nL) (hstack : st = As.reverse ++ rest) (hW : (rest.map fun v => v.category).sum ≤ 8) (hdg : decode cc pc = .ok (.invokestatic index, 3))
    (hR : fr + 1 ≤ R.frames ∧ 8 + (maxL + 11) + lo ≤ R.locals) (hf : cells ≤ R.cells ∧ slots ≤ R.slots)
    (kk : ∀ (H1 : Heap) (locs1 : List Loc), gW G σ' H1 → va_S A0 s.heap H1 locs1 → W p l e R s m args below meth c H1 locs1 cells slots Q (F0 m (pc + 3) ls rest)) : W p l e R s m args below meth c H locs cells slots Q (F0 m pc ls st) := by
  refine va_callv (va_runS (g := F0 m pc ls st) (rest := rest) ⟨hx, hb, hml, hown, ht⟩ hM (va_cwS n ht (g_goodS w1 w2 w4 w5) rfl rfl rfl hd hR) ⟨gPc_blind, fun U hU hWm => ⟨rfl, hE.go hS hA2 hWm hU, by rw [hU]; exact hP⟩⟩ rfl hn hsize hstack (lv_room hW) hdg hf) hS (fun q _ h => hA q h) hA (fun u t H1 locs1 ht1 hvm hw hB hz hk1 hS1 => ?_)
  subst hw
  exact kk H1 locs1 (by rw [← ht1]; exact hB.2) hS1
/-- a private static of a nest mate -/
theorem g_callSN (hx : p.tables.exec = Jvm.exec) (hb : c.code = cc) (hml : c.maxLocals = nL) (hown : s.vm.findClass own = some m.cls) (ht : ∀ w ∈ gTb, w.before args s = true)
    (hM : gC l G y bytes maxL ret fr lo As σ r σ') {host : String} (w1 : Cond.methodLinkNest own index y host ∈ gNest) (w2 : Cond.static y ∈ gTb) (w4 : Cond.initialized y.cls ∈ gTb) (w5 : Cond.code y bytes maxL ret ∈ gTb)
    (hd : y.cls ≠ "java/lang/invoke/MethodHandle" ∧ y.cls ≠ "java/lang/invoke/VarHandle" ∧ (parseMethodDescriptor y.desc).map (fun d => d.parameters.length) = some n)
    (hE : gEnv G s) (hP : gW G σ H) (hS : va_S A0 s.heap H locs) (hA : ∀ q, gA G q → A0 q) (hA2 : ∀ q, q < s.heap.size → ¬ gA G q → ¬ A0 q)
    (hn : As.length = n) (hsize : ls.size = nL) (hstack : st = As.reverse ++ rest) (hW : (rest.map fun v => v.category).sum ≤ 8) (hdg : decode cc pc = .ok (.invokestatic index, 3))
    (hR : fr + 1 ≤ R.frames ∧ 8 + (maxL + 11) + lo ≤ R.locals) (hf : cells ≤ R.cells ∧ slots ≤ R.slots)
    (kk : ∀ (H1 : Heap) (locs1 : List Loc), gW G σ' H1 → va_S A0 s.heap H1 locs1 → W p l e R s m args below meth c H1 locs1 cells slots Q (F0 m (pc + 3) ls (.int r :: rest))) : W p l e R s m args below meth c H locs cells slots Q (F0 m pc ls st) := by
  refine va_calli (va_runSN (g := F0 m pc ls st) (rest := rest) ⟨hx, hb, hml, hown, ht⟩ hM ⟨va_cnB n ht (g_good w5) rfl rfl rfl (hE.2.2.1 _ w1) (ht _ w4) hd hR, ht _ w2, trivial⟩ ⟨gPc_blind, fun U hU hWm => ⟨rfl, hE.go hS hA2 hWm hU, by rw [hU]; exact hP⟩⟩ rfl hn hsize hstack (lv_room hW) hdg hf) hS (fun q _ h => hA q h) hA (fun r1 u t H1 locs1 ht1 hvm hw hB hz hk1 hS1 => ?_)
  obtain ⟨rfl, rfl⟩ := hw
  exact kk H1 locs1 (by rw [← ht1]; exact hB.2) hS1
theorem g_callSNv (hx : p.tables.exec = Jvm.exec) (hb : c.code = cc) (hml : c.maxLocals = nL) (hown : s.vm.findClass own = some m.cls) (ht : ∀ w ∈ gTb, w.before args s = true)
    (hM : gV l G y bytes maxL fr lo As σ σ') {host : String} (w1 : Cond.methodLinkNest own index y host ∈ gNest) (w2 : Cond.static y ∈ gTb) (w4 : Cond.initialized y.cls ∈ gTb) (w5 : Cond.code y bytes maxL none ∈ gTb)
    (hd : y.cls ≠ "java/lang/invoke/MethodHandle" ∧ y.cls ≠ "java/lang/invoke/VarHandle" ∧ (parseMethodDescriptor y.desc).map (fun d => d.parameters.length) = some n)
    (hE : gEnv G s) (hP : gW G σ H) (hS : va_S A0 s.heap H locs) (hA : ∀ q, gA G q → A0 q) (hA2 : ∀ q, q < s.heap.size → ¬ gA G q → ¬ A0 q)
    (hn : As.length = n) (hsize : ls.size = nL) (hstack : st = As.reverse ++ rest) (hW : (rest.map fun v => v.category).sum ≤ 8) (hdg : decode cc pc = .ok (.invokestatic index, 3))
    (hR : fr + 1 ≤ R.frames ∧ 8 + (maxL + 11) + lo ≤ R.locals) (hf : cells ≤ R.cells ∧ slots ≤ R.slots)
    (kk : ∀ (H1 : Heap) (locs1 : List Loc), gW G σ' H1 → va_S A0 s.heap H1 locs1 → W p l e R s m args below meth c H1 locs1 cells slots Q (F0 m (pc + 3) ls rest)) : W p l e R s m args below meth c H locs cells slots Q (F0 m pc ls st) := by
  refine va_callv (va_runSN (g := F0 m pc ls st) (rest := rest) ⟨hx, hb, hml, hown, ht⟩ hM ⟨va_cnB n ht (g_good w5) rfl rfl rfl (hE.2.2.1 _ w1) (ht _ w4) hd hR, ht _ w2, trivial⟩ ⟨gPc_blind, fun U hU hWm => ⟨rfl, hE.go hS hA2 hWm hU, by rw [hU]; exact hP⟩⟩ rfl hn hsize hstack (lv_room hW) hdg hf) hS (fun q _ h => hA q h) hA (fun u t H1 locs1 ht1 hvm hw hB hz hk1 hS1 => ?_)
  subst hw
  exact kk H1 locs1 (by rw [← ht1]; exact hB.2) hS1
/-- System.arraycopy between int arrays of the world -/
theorem g_copy (hx : p.tables.exec = Jvm.exec) (hb : c.code = cc) (hml : c.maxLocals = ls.size) (hown : s.vm.findClass own = some m.cls) (ht : ∀ w ∈ gTb, w.before args s = true) (w1 : Cond.methodLink own index arraycopyName ∈ gTb) (w2 : Cond.native arraycopyName ∈ gTb) (w3 : Cond.static arraycopyName ∈ gTb) (w4 : Cond.initialized "java/lang/System" ∈ gTb)
    (hE : gEnv G s) (hP : gW G σ H) (hS : va_S (gA G) s.heap H locs) {k1 k2 n1 n2 : Nat} (hk1 : k1 < gN) (hL1 : gLen k1 = n1) (hz1 : n1 ≠ 0) (hk2 : k2 < gN) (hL2 : gLen k2 = n2) (hz2 : n2 ≠ 0) {sp dp n : Int32}
    (hg : ¬ sp < 0 ∧ ¬ dp < 0 ∧ ¬ n < 0 ∧ sp.toNatClampNeg + n.toNatClampNeg ≤ n1 ∧ dp.toNatClampNeg + n.toNatClampNeg ≤ n2) (hfr : 1 ≤ R.frames) (hlo : (rest.map fun v => v.category).sum + (nativeFrameWords "java/lang/System" "arraycopy" 5 + 11) ≤ R.locals) (hdg : decode cc pc = .ok (.invokestatic index, 3))
    (kk : ∀ (H1 : Heap) (locs1 : List Loc) (σ1 : gSt), σ1 = gRow σ k2 (va_cpy (σ k1) (σ k2) sp.toNatClampNeg dp.toNatClampNeg n.toNatClampNeg) → gW G σ1 H1 → va_S (gA G) s.heap H1 locs1 → W p l e R s m args below meth c H1 locs1 cells slots Q (F0 m (pc + 3) ls rest)) : W p l e R s m args below meth c H locs cells slots Q (F0 m pc ls (.int n :: .int dp :: .ref (G.2.2.1 k2) :: .int sp :: .ref (G.2.2.1 k1) :: rest)) := by
  subst hL1
  subst hL2
  refine va_copyi hx hb hml hown (ht _ w1) (ht _ w2) (ht _ w3) (ht _ w4) hE.2.1 hP hE.1.D hS k1 k2 0 0 (by rw [gWl_get hk1, gE_arr hz1]) (by rw [gWl_get hk2, gE_arr hz2]) rfl rfl rfl hg.1 hg.2.1 hg.2.2.1 hg.2.2.2.1 hg.2.2.2.2 (fun _ _ => rfl) hfr hlo hdg (fun H1 locs1 hP1 hD1 hS1 => ?_)
  rw [← gE_arr hz2, gWl_set hk2] at hP1
  exact kk H1 locs1 _ rfl hP1 hS1
theorem g_max (hx : p.tables.exec = Jvm.exec) (hb : c.code = cc) (hml : c.maxLocals = ls.size) (hown : s.vm.findClass own = some m.cls) (ht : ∀ w ∈ gTb, w.before args s = true) (w1 : Cond.methodLink own index Lib.Math.max.name ∈ gTb) (w2 : Cond.static Lib.Math.max.name ∈ gTb) (w3 : Cond.initialized "java/lang/Math" ∈ gTb) (w4 : Cond.code Lib.Math.max.name Lib.Math.max.code 2 (some .int) ∈ gTb)
    (hfr : 1 ≤ R.frames) (hlo : (rest.map fun v => v.category).sum + 13 ≤ R.locals) (hf : cells ≤ R.cells ∧ slots ≤ R.slots) {x z : Int32} (hdg : decode cc pc = .ok (.invokestatic index, 3))
    (kk : W p l e R s m args below meth c H locs cells slots Q (F0 m (pc + 3) ls (.int (if x < z then z else x) :: rest))) : W p l e R s m args below meth c H locs cells slots Q (F0 m pc ls (.int z :: .int x :: rest)) :=
  va_mmax hx hb hml hown (ht _ w1) (ht _ w2) (ht _ w3) (ht _ w4) hfr hlo hf.1 hf.2 hdg kk
theorem g_min (hx : p.tables.exec = Jvm.exec) (hb : c.code = cc) (hml : c.maxLocals = ls.size) (hown : s.vm.findClass own = some m.cls) (ht : ∀ w ∈ gTb, w.before args s = true) (w1 : Cond.methodLink own index Lib.Math.min.name ∈ gTb) (w2 : Cond.static Lib.Math.min.name ∈ gTb) (w3 : Cond.initialized "java/lang/Math" ∈ gTb) (w4 : Cond.code Lib.Math.min.name Lib.Math.min.code 2 (some .int) ∈ gTb)
    (hfr : 1 ≤ R.frames) (hlo : (rest.map fun v => v.category).sum + 13 ≤ R.locals) (hf : cells ≤ R.cells ∧ slots ≤ R.slots) {x z : Int32} (hdg : decode cc pc = .ok (.invokestatic index, 3))
    (kk : W p l e R s m args below meth c H locs cells slots Q (F0 m (pc + 3) ls (.int (if z < x then z else x) :: rest))) : W p l e R s m args below meth c H locs cells slots Q (F0 m pc ls (.int z :: .int x :: rest)) :=
  va_mmin hx hb hml hown (ht _ w1) (ht _ w2) (ht _ w3) (ht _ w4) hfr hlo hf.1 hf.2 hdg kk
/-- a switch, by the number -/
theorem g_ne {x k : Int32} (h : ¬ x = k) : x.toInt ≠ k.toInt := fun e => h (Int32.toInt_inj.mp e)
end GC
