/-! ===== constructors: what they stand on ===== -/
def gTyC (ca : Nat → ClassId) : List (ClassId × FieldType) := [(ca 0, .int), (ca 1, .array .int), (ca 2, .object "PoorDesk$Sheet")]
def gNestI : List Cond := [.methodLinkNest "PoorDesk" 9 yX0_init "PoorDesk", .methodLinkNest "PoorDesk$Book" 9 yX4_init "PoorDesk", .methodLinkNest "PoorDesk$Book" 18 yX5_init "PoorDesk", .methodLinkNest "PoorDesk$Book" 25 yX1_init "PoorDesk", .methodLinkNest "PoorDesk$Book" 32 yX2_init "PoorDesk", .methodLinkNest "PoorDesk$Book" 39 yX3_init "PoorDesk", .methodLinkNest "PoorDesk$Book" 46 yX6_init "PoorDesk", .methodLinkNest "PoorDesk" 34 yX8_init "PoorDesk"]
theorem gNestI_warm {s U : State} (hW : s.WarmedH U.vm) (h : ∀ w ∈ gNestI, va_Nw w s) : ∀ w ∈ gNestI, va_Nw w U := by
  intro w hw
  have h1 := h w hw
  simp only [gNestI, List.mem_cons, List.not_mem_nil, or_false] at hw
  rcases hw with rfl | rfl | rfl | rfl | rfl | rfl | rfl | rfl <;> exact va_Nw.warmM hW h1
theorem gNestI_same {s U : State} (hv : s.vm = U.vm) (h : ∀ w ∈ gNestI, va_Nw w s) : ∀ w ∈ gNestI, va_Nw w U := by
  intro w hw
  have h1 := h w hw
  simp only [gNestI, List.mem_cons, List.not_mem_nil, or_false] at hw
  rcases hw with rfl | rfl | rfl | rfl | rfl | rfl | rfl | rfl <;> exact va_Nw.same rfl hv h1
/-- an array class over an array type is there behind a warming too -/
theorem va_AOA.moved {t : FieldType} {u U : State} (hvm : u.vm.Alike U.vm) (h : va_AOA t u) : va_AOA t U := by
  obtain ⟨comp, c, k, h1, h2, h3, h4, h5⟩ := arrayOver_specB h
  obtain ⟨k', hk', he⟩ := hvm.2.2 _ _ h3
  have hi : (U.vm.classes.findIdx? fun (x : Class) => match x.kind with | .array component _ => component == comp | _ => false) = some c := by
    have hb : U.vm.bare = u.vm.bare := by first | exact hvm.bare_eq | exact hvm.bare_eq.symm
    have e1 := va_idx_bare U.vm comp
    have e2 := va_idx_bare u.vm comp
    rw [hb] at e1
    exact e1.symm.trans (e2.trans h2)
  have hkind : k'.kind = .array comp (.array t) := by rw [he]; exact h4
  have f1 : U.vm.findClass (FieldType.array t).toString = some comp := by rw [hvm.findClass]; exact h1
  have f2 : U.vm.findClass ("[" ++ (FieldType.array t).toString) = some c := by rw [hvm.findClass]; exact h5
  unfold va_AOA Cond.before Cond.holds
  simp only [Cond.value]
  rw [f1, Option.bind_some]
  refine (congrArg (fun o : Option Nat => (o.bind (fun c => (U.vm.classes[c]?).map fun (k : Class) => match k.kind with | .array _ ty => decide (ty = FieldType.array t) && decide (U.vm.findClass ("[" ++ (FieldType.array t).toString) = some c) | _ => false) == some true)) hi).trans ?_
  simp [hk', hkind, f2]
def gCE (D : va_G) (ca : Nat → ClassId) (U : State) : Prop := va_K D vwCl (gTyC ca) U ∧ va_AOA .int U ∧ va_AO "PoorDesk$Sheet" U ∧ ∀ w ∈ gNestI, va_Nw w U
theorem gCE.warm {D : va_G} {ca : Nat → ClassId} {s U : State} (h : gCE D ca s) (hW : s.WarmedH U.vm) : gCE D ca U := ⟨va_K.moved hW.alike h.1, va_AOA.moved hW.alike h.2.1, va_AO.moved hW.alike h.2.2.1, gNestI_warm hW h.2.2.2⟩
theorem gCE.same {D : va_G} {ca : Nat → ClassId} {s U : State} (h : gCE D ca s) (hv : s.vm = U.vm) : gCE D ca U := by
  have ha : s.vm.Alike U.vm := by rw [hv]; exact Vm.Alike.refl _
  exact ⟨va_K.moved ha h.1, va_AOA.moved ha h.2.1, va_AO.moved ha h.2.2.1, gNestI_same hv h.2.2.2⟩
theorem i_D1 {q : Nat} {e : va_E} {A : Nat → Prop} (h : A q) : va_D A [(q, e)] := by
  refine ⟨fun i j x y hi hj _ => ?_, fun k x hk => ?_⟩
  · have h1 := (List.getElem?_eq_some_iff.mp hi).1
    have h2 := (List.getElem?_eq_some_iff.mp hj).1
    simp at h1 h2
    omega
  · have h1 := (List.getElem?_eq_some_iff.mp hk).1
    have : k = 0 := by simp at h1; omega
    subst this
    cases hk
    exact h
/-- a constructor's contract: from an object with fields fs, all the cells of w -/
def iC (l : Launch) (D : va_G) (ca : Nat → ClassId) (y : MethodName) (cc : ByteArray) (n : Nat) (rm : Room) (ci : Nat) (fs As : List Value) (w : Nat → (Nat → Nat) → va_W) : Prop := ∀ (h0 sz : Nat), Met l y (.code y cc n none :: gTb) rm (va_Pc (.ref h0 :: As) (fun U => U.heap.size = sz ∧ va_P D vwCl [(h0, .inr (ci, fs))] U.heap ∧ gCE D ca U))
  (va_Qv (fun _ : Nat → Nat => True) (fun a t => va_P D vwCl (w h0 a) t.heap ∧ va_D (va_A [(h0, .inr (ci, fs))] sz) (w h0 a)) (va_A [(h0, .inr (ci, fs))] sz)) rm.cells rm.slots (va_A [(h0, .inr (ci, fs))] sz)
abbrev iQ (D : va_G) (w : Nat → (Nat → Nat) → va_W) (h0 : Nat) (A : Nat → Prop) : Array Value → State → Outcome → State → Prop := va_Qv (fun _ : Nat → Nat => True) (fun a t => va_P D vwCl (w h0 a) t.heap ∧ va_D A (w h0 a)) A
theorem iC_of {l : Launch} {D : va_G} {ca : Nat → ClassId} {y : MethodName} {cc : ByteArray} {n : Nat} {rm : Room} {ci : Nat} {fs As : List Value} {w : Nat → (Nat → Nat) → va_W} (hy : plainName y.cls = true) (hyi : y.name = "<init>") (hn : ∀ h0, (lg_sl (.ref h0 :: As)).length ≤ n)
    (body : ∀ p e s m below meth c h0 A, p.tables.exec = Jvm.exec → c.code = cc → meth.sig.returnType = none → (∀ w ∈ gTb, w.before (Value.ref h0 :: As).toArray s = true) → s.vm.findClass y.cls = some m.cls → meth.locks = false → c.maxLocals = n → meth.name = "<init>" → gCE D ca s → (∀ q : Nat, s.heap.size ≤ q → A q) → va_P D vwCl [(h0, .inr (ci, fs))] s.heap → va_D A [(h0, .inr (ci, fs))] → ∀ ls, lv_has ls n (lv_args 0 (.ref h0 :: As)) →
      W p l e rm s m (Value.ref h0 :: As).toArray below meth c s.heap [] 0 0 (MQ below (iQ D w h0 A) (Value.ref h0 :: As).toArray s rm.cells rm.slots A) (F0 m 0 ls [])) : iC l D ca y cc n rm ci fs As w := by
  intro h0 sz
  refine Met.ofW (cc := cc) (maxL := n) (ret := none) hy rfl ?_
  intro p e s m args below meth c s₁ B hml hv
  obtain ⟨rfl, hsz, hP, hE⟩ := hv
  subst hsz
  have hts := atoms_spec (ws := .code y cc n none :: gTb) B.pre
  rw [lg_entry_eq]
  exact body p e s m below meth c h0 _ B.exec B.bytes B.returns (fun w hw => hts w (List.mem_cons_of_mem _ hw)) (findClass_of_methodNamed B.named) B.notSynchronized hml ((name_of_methodNamed B.named B.method).1.trans hyi) hE (fun q h => Or.inr h) hP (i_D1 (Or.inl ⟨0, _, rfl⟩)) _ (lv_entry _ (hn h0))
section IR
variable {p : Program} {l : Launch} {e : Env} {R : Room} {s : State} {m : MethodId} {args : Array Value} {below : List Frame} {meth : Method} {c : Code} {H : Heap} {locs : List Loc} {cells slots : Nat} {Q : State → Prop}
variable {cc : ByteArray} {pc : Nat} {ls : Array Slot} {rest : List Value} {D : va_G} {ca : Nat → ClassId} {A : Nat → Prop} {ws : va_W}
theorem i_ret {w : Nat → (Nat → Nat) → va_W} {h0 : Nat} (a : Nat → Nat) (hx : p.tables.exec = Jvm.exec) (hb : c.code = cc) (hr : meth.sig.returnType = none) (hlk : meth.locks = false) {k n : Nat} (hc : cells ≤ k) (hs : slots ≤ n) (hR : k ≤ R.cells ∧ n ≤ R.slots) (hP : va_P D vwCl (w h0 a) H) (hD : va_D A (w h0 a)) (hS : va_S A s.heap H locs) (hdg : decode cc pc = .ok (.return_, 1)) :
    W p l e R s m args below meth c H locs cells slots (MQ below (iQ D w h0 A) args s k n A) (F0 m pc ls []) := by
  refine W.widen (k := k) (n := n) hc hs ?_
  exact W.vret hx hb hr (fun t ht hW => ⟨⟨a, rfl, trivial, by rw [ht]; exact hP, hD⟩, hS.F ht⟩) hS.2.2 hdg hlk
/-- a new int array -/
theorem i_newa (hx : p.tables.exec = Jvm.exec) (hb : c.code = cc) (harr : (Cond.arrayClass .int).before args s = true) (hE : gCE D ca s) (hP : va_P D vwCl ws H) (hD : va_D A ws) (hS : va_S A s.heap H locs) (hA : ∀ q : Nat, s.heap.size ≤ q → A q) {n : Int32} (N : Nat) (hn : ¬ n < 0) (hN : n.toNatClampNeg = N) (hbytes : N * 4 ≤ 536870912) (k z : Nat) (hc : cells + 1 ≤ k) (hz : slots + N ≤ z) (hR : k ≤ R.cells ∧ z ≤ R.slots) (hdg : decode cc pc = .ok (.newarray .int, 2))
    (kk : ∀ (q : Nat) (H1 : Heap), va_P D vwCl (ws ++ [(q, .inl (ca 0, N, .inl (fun _ => 0)))]) H1 → va_D A (ws ++ [(q, .inl (ca 0, N, .inl (fun _ => 0)))]) → va_S A s.heap H1 locs → W p l e R s m args below meth c H1 locs k z Q (F0 m (pc + 2) ls (.ref q :: rest))) : W p l e R s m args below meth c H locs cells slots Q (F0 m pc ls (.int n :: rest)) := by
  refine va_newa (atype := .int) (ty := .int) (a0 := (N, .inl (fun _ => 0))) hx hb harr rfl hE.1 hP hD hS hA (fun _ => rfl) hn hN hbytes (by omega) (by omega) hdg (fun q cA H1 hK1 hP1 hD1 hS1 => ?_)
  have h1 : s.vm.findClass ("[" ++ FieldType.int.toString) = some cA := (hK1.2 3 (cA, .int) rfl).2
  have h2 : s.vm.findClass ("[" ++ FieldType.int.toString) = some (ca 0) := (hK1.2 0 (ca 0, .int) rfl).2
  have e : cA = ca 0 := Option.some.inj (h1.symm.trans h2)
  subst e
  exact W.widen (k := k) (n := z) hc hz (kk q H1 hP1 hD1 hS1)
theorem i_join {wr w1 : va_W} {q : Nat} {e : va_E} {H1 : Heap} (hP : va_P D vwCl (wr ++ [(q, e)]) H) (hD : va_D A (wr ++ [(q, e)])) (hk : ∀ q' : Nat, q' < H.size → ¬ va_A [(q, e)] H.size q' → H1[q']? = H[q']?) (hF : ∀ q', va_A [(q, e)] H.size q' → A q') (hP1 : va_P D vwCl w1 H1) (hD1 : va_D (va_A [(q, e)] H.size) w1) : va_P D vwCl (wr ++ w1) H1 ∧ va_D A (wr ++ w1) := by
  have old : ∀ (k : Nat) (x : Nat × va_E), wr[k]? = some x → (wr ++ [(q, e)])[k]? = some x := fun k x hx => by
    rw [List.getElem?_append_left (List.getElem?_eq_some_iff.mp hx).1]
    exact hx
  have apart : ∀ (k : Nat) (x : Nat × va_E), wr[k]? = some x → x.1 < H.size ∧ ¬ va_A [(q, e)] H.size x.1 := fun k x hx => by
    have hl := (hP k x (old k x hx)).lt
    refine ⟨hl, fun h => ?_⟩
    rcases h with ⟨k2, e2, h⟩ | h
    · have h1 := (List.getElem?_eq_some_iff.mp h).1
      have : k2 = 0 := by simp at h1; omega
      subst this
      have e0 : (q, e) = (x.1, e2) := Option.some.inj h
      have e1 : q = x.1 := congrArg Prod.fst e0
      have hq : (wr ++ [(q, e)])[wr.length]? = some (q, e) := by simp
      have := hD.1 k wr.length x (q, e) (old k x hx) hq e1.symm
      have h3 := (List.getElem?_eq_some_iff.mp hx).1
      omega
    · omega
  refine ⟨va_P.app (va_P.kept (H := H) (fun k x hx => hP k x (old k x hx)) (fun k x hx => hk x.1 (apart k x hx).1 (apart k x hx).2)) hP1, ?_, ?_⟩
  · intro i j x y hi hj hxy
    by_cases a1 : i < wr.length <;> by_cases a2 : j < wr.length
    · rw [List.getElem?_append_left a1] at hi
      rw [List.getElem?_append_left a2] at hj
      exact hD.1 i j x y (old i x hi) (old j y hj) hxy
    · rw [List.getElem?_append_left a1] at hi
      rw [List.getElem?_append_right (by omega)] at hj
      exact absurd (hxy ▸ hD1.2 _ y hj) (apart i x hi).2
    · rw [List.getElem?_append_right (by omega)] at hi
      rw [List.getElem?_append_left a2] at hj
      exact absurd (hxy ▸ hD1.2 _ x hi) (apart j y hj).2
    · rw [List.getElem?_append_right (by omega)] at hi hj
      have := hD1.1 _ _ x y hi hj hxy
      omega
  · intro k x hx
    by_cases a1 : k < wr.length
    · rw [List.getElem?_append_left a1] at hx
      exact hD.2 k x (old k x hx)
    · rw [List.getElem?_append_right (by omega)] at hx
      exact hF _ (hD1.2 _ x hx)
theorem i_free {wr : va_W} {q : Nat} {e : va_E} (hD : va_D A (wr ++ [(q, e)])) (hS : va_S A s.heap H locs) (hA : ∀ q : Nat, s.heap.size ≤ q → A q) : ∀ q', va_A [(q, e)] H.size q' → A q' := by
  intro q' h
  rcases h with ⟨k2, e2, h⟩ | h
  · have h1 := (List.getElem?_eq_some_iff.mp h).1
    have : k2 = 0 := by simp at h1; omega
    subst this
    have e0 : (q, e) = (q', e2) := Option.some.inj h
    have e1 : q = q' := congrArg Prod.fst e0
    rw [← e1]
    exact hD.2 wr.length (q, e) (by simp)
  · exact hA q' (Nat.le_trans hS.1 h)
theorem i_pre {h0 ci : Nat} {fs As : List Value} (hE : gCE D ca s) (hP : va_P D vwCl (ws ++ [(h0, .inr (ci, fs))]) H) : PreS s H (va_Pc (.ref h0 :: As) (fun U => U.heap.size = H.size ∧ va_P D vwCl [(h0, .inr (ci, fs))] U.heap ∧ gCE D ca U)) (.ref h0 :: As) := by
  refine ⟨fun a U g mk q => ?_, fun U hU hW => ⟨rfl, by rw [hU], ?_, hE.warm hW⟩⟩
  · obtain ⟨q0, q1, q2, q3⟩ := q
    exact ⟨q0, q1, q2, q3.same rfl⟩
  · rw [hU]
    intro k x hx
    have h1 := (List.getElem?_eq_some_iff.mp hx).1
    have : k = 0 := by simp at h1; omega
    subst this
    cases hx
    exact hP ws.length _ (by simp)
variable {own host : String} {y : MethodName} {bytes : ByteArray} {maxL index n nL ci q0 : Nat} {fs As st : List Value} {rm : Room} {w : Nat → (Nat → Nat) → va_W}
theorem i_callN (hx : p.tables.exec = Jvm.exec) (hb : c.code = cc) (hml : c.maxLocals = nL) (hown : s.vm.findClass own = some m.cls) (ht : ∀ w ∈ gTb, w.before args s = true) (hM : iC l D ca y bytes maxL rm ci fs As w)
    (w1 : Cond.methodLinkNest own index y host ∈ gNestI) (w2 : Cond.instanceMethod y ∈ gTb) (w4 : Cond.initialized y.cls ∈ gTb) (w5 : Cond.code y bytes maxL none ∈ gTb) (hname : y.name = "<init>") (hd : y.cls ≠ "java/lang/invoke/MethodHandle" ∧ y.cls ≠ "java/lang/invoke/VarHandle" ∧ (parseMethodDescriptor y.desc).map (fun d => d.parameters.length) = some n)
    (hE : gCE D ca s) (hP : va_P D vwCl (ws ++ [(q0, .inr (ci, fs))]) H) (hD : va_D A (ws ++ [(q0, .inr (ci, fs))])) (hS : va_S A s.heap H locs) (hA : ∀ q : Nat, s.heap.size ≤ q → A q) (hn : As.length = n) (hsize : ls.size = nL) (hstack : st = As.reverse ++ .ref q0 :: rest) (hW : (rest.map fun v => v.category).sum ≤ 8) (hdg : decode cc pc = .ok (.invokespecial index, 3))
    (hR : rm.frames + 1 ≤ R.frames ∧ 8 + (maxL + 11) + rm.locals ≤ R.locals) (k z : Nat) (hc : cells + rm.cells ≤ k) (hz : slots + rm.slots ≤ z) (hR2 : k ≤ R.cells ∧ z ≤ R.slots)
    (kk : ∀ (a : Nat → Nat) (H1 : Heap) (locs1 : List Loc), va_P D vwCl (ws ++ w q0 a) H1 → va_D A (ws ++ w q0 a) → va_S A s.heap H1 locs1 → W p l e R s m args below meth c H1 locs1 k z Q (F0 m (pc + 3) ls rest)) : W p l e R s m args below meth c H locs cells slots Q (F0 m pc ls st) := by
  have hF := i_free (wr := ws) hD hS hA
  refine va_callv (va_runIN (As := As) (rest := rest) ⟨hx, hb, hml, hown, ht⟩ (hM q0 H.size) ⟨va_cnB (host := host) n ht (g_good w5) rfl rfl rfl (hE.2.2.2 _ w1) (ht _ w4) hd hR, hname, ht _ w2⟩ (i_pre hE hP) rfl hn hsize hstack (by simpa [lv_room] using hW) hdg ⟨by omega, by omega⟩) hS (fun q _ h => hF q h) hF (fun a t H1 locs1 hth hvm h5 hB hz1 hk1 hS1 => ?_)
  obtain ⟨hP1, hD1⟩ := hB
  rw [hth] at hP1
  obtain ⟨hP2, hD2⟩ := i_join hP hD hk1 hF hP1 hD1
  exact W.widen (k := k) (n := z) hc hz (kk a H1 locs1 hP2 hD2 hS1)
theorem i_callI (hx : p.tables.exec = Jvm.exec) (hb : c.code = cc) (hml : c.maxLocals = nL) (hown : s.vm.findClass own = some m.cls) (ht : ∀ w ∈ gTb, w.before args s = true) (hM : iC l D ca y bytes maxL rm ci fs As w)
    (w1 : Cond.methodLink own index y ∈ gTb) (w2 : Cond.instanceMethod y ∈ gTb) (w4 : Cond.initialized y.cls ∈ gTb) (w5 : Cond.code y bytes maxL none ∈ gTb) (hname : y.name = "<init>") (hd : y.cls ≠ "java/lang/invoke/MethodHandle" ∧ y.cls ≠ "java/lang/invoke/VarHandle" ∧ (parseMethodDescriptor y.desc).map (fun d => d.parameters.length) = some n)
    (hE : gCE D ca s) (hP : va_P D vwCl (ws ++ [(q0, .inr (ci, fs))]) H) (hD : va_D A (ws ++ [(q0, .inr (ci, fs))])) (hS : va_S A s.heap H locs) (hA : ∀ q : Nat, s.heap.size ≤ q → A q) (hn : As.length = n) (hsize : ls.size = nL) (hstack : st = As.reverse ++ .ref q0 :: rest) (hW : (rest.map fun v => v.category).sum ≤ 8) (hdg : decode cc pc = .ok (.invokespecial index, 3))
    (hR : rm.frames + 1 ≤ R.frames ∧ 8 + (maxL + 11) + rm.locals ≤ R.locals) (k z : Nat) (hc : cells + rm.cells ≤ k) (hz : slots + rm.slots ≤ z) (hR2 : k ≤ R.cells ∧ z ≤ R.slots)
    (kk : ∀ (a : Nat → Nat) (H1 : Heap) (locs1 : List Loc), va_P D vwCl (ws ++ w q0 a) H1 → va_D A (ws ++ w q0 a) → va_S A s.heap H1 locs1 → W p l e R s m args below meth c H1 locs1 k z Q (F0 m (pc + 3) ls rest)) : W p l e R s m args below meth c H locs cells slots Q (F0 m pc ls st) := by
  have hF := i_free (wr := ws) hD hS hA
  refine va_callv (va_runI (As := As) (rest := rest) ⟨hx, hb, hml, hown, ht⟩ (hM q0 H.size) (cwI n ht (g_good w5) rfl rfl rfl (ht _ w4) (ht _ w1) (ht _ w2) hname hd hR) (i_pre hE hP) rfl hn hsize hstack (by simpa [lv_room] using hW) hdg ⟨by omega, by omega⟩) hS (fun q _ h => hF q h) hF (fun a t H1 locs1 hth hvm h5 hB hz1 hk1 hS1 => ?_)
  obtain ⟨hP1, hD1⟩ := hB
  rw [hth] at hP1
  obtain ⟨hP2, hD2⟩ := i_join hP hD hk1 hF hP1 hD1
  exact W.widen (k := k) (n := z) hc hz (kk a H1 locs1 hP2 hD2 hS1)
/-- a new array of sheets -/
theorem i_newq (hx : p.tables.exec = Jvm.exec) (hb : c.code = cc) (hown : s.vm.findClass own = some m.cls) (hcl : (Cond.classLink own index "PoorDesk$Sheet").before args s = true) (hE : gCE D ca s) (hP : va_P D vwCl ws H) (hD : va_D A ws) (hS : va_S A s.heap H locs) (hA : ∀ q : Nat, s.heap.size ≤ q → A q) {n : Int32} (N : Nat) (hn : ¬ n < 0) (hN : n.toNatClampNeg = N) (hbytes : N * 4 ≤ 536870912) (k z : Nat) (hc : cells + 1 ≤ k) (hz : slots + N ≤ z) (hR : k ≤ R.cells ∧ z ≤ R.slots) (hdg : decode cc pc = .ok (.anewarray index, 3))
    (kk : ∀ (q : Nat) (H1 : Heap), va_P D vwCl (ws ++ [(q, .inl (ca 2, N, .inr (.inr (.inr (.inr (fun _ => none))))))]) H1 → va_D A (ws ++ [(q, .inl (ca 2, N, .inr (.inr (.inr (.inr (fun _ => none))))))]) → va_S A s.heap H1 locs → W p l e R s m args below meth c H1 locs k z Q (F0 m (pc + 3) ls (.ref q :: rest))) : W p l e R s m args below meth c H locs cells slots Q (F0 m pc ls (.int n :: rest)) := by
  refine va_newq (C := "PoorDesk$Sheet") hx hb hown hcl hE.2.2.1 hE.1 hP hD hS hA hn hN hbytes (by omega) (by omega) hdg (fun q cA H1 hK1 hP1 hD1 hS1 => ?_)
  obtain ⟨_, _, _, _, _, h1⟩ := (hK1.2 3 (cA, .object "PoorDesk$Sheet") rfl).2
  obtain ⟨_, _, _, _, _, h2⟩ := (hK1.2 2 (ca 2, .object "PoorDesk$Sheet") rfl).2
  have e : cA = ca 2 := Option.some.inj (h1.symm.trans h2)
  subst e
  exact W.widen (k := k) (n := z) hc hz (kk q H1 hP1 hD1 hS1)
theorem i_pl {r : Nat → Nat} {f : Nat → va_E} {x : va_E} : va_pl ([] ++ (List.range 6).map r) (vr_up f ((List.range 6).map r) x) = [(r 0, x), (r 1, x), (r 2, x), (r 3, x), (r 4, x), (r 5, x)] := by
  have h : ∀ i, i < 6 → vr_up f ((List.range 6).map r) x (r i) = x := fun i hi => vr_up_in (List.mem_map.mpr ⟨i, List.mem_range.mpr hi, rfl⟩)
  show [(r 0, vr_up f ((List.range 6).map r) x (r 0)), (r 1, vr_up f ((List.range 6).map r) x (r 1)), (r 2, vr_up f ((List.range 6).map r) x (r 2)), (r 3, vr_up f ((List.range 6).map r) x (r 3)), (r 4, vr_up f ((List.range 6).map r) x (r 4)), (r 5, vr_up f ((List.range 6).map r) x (r 5))] = _
  rw [h 0 (by decide), h 1 (by decide), h 2 (by decide), h 3 (by decide), h 4 (by decide), h 5 (by decide)]
theorem i_six {r : Nat → Nat} : (fun i => if i < 6 then some (r i) else none) = (fun i => ([r 0, r 1, r 2, r 3, r 4, r 5] : List Nat)[i]?) := by
  funext i
  match i with
  | 0 => rfl
  | 1 => rfl
  | 2 => rfl
  | 3 => rfl
  | 4 => rfl
  | 5 => rfl
  | n + 6 => simp
/-- two rows of miles: an array of arrays, six by six -/
theorem i_mna (hx : p.tables.exec = Jvm.exec) (hb : c.code = cc) (hown : s.vm.findClass own = some m.cls) (hcl : (Cond.classLink own index ("[" ++ (FieldType.array .int).toString)).before args s = true) (harr : (Cond.arrayClass .int).before args s = true) (hE : gCE D ca s) (hP : va_P D vwCl ws H) (hD : va_D A ws) (hS : va_S A s.heap H locs) (hA : ∀ q : Nat, s.heap.size ≤ q → A q) (k z : Nat) (hc : cells + 7 ≤ k) (hz : slots + 42 ≤ z) (hR : k ≤ R.cells ∧ z ≤ R.slots) (hdg : decode cc pc = .ok (.multianewarray index 2, 4))
    (kk : ∀ (q : Nat) (r : Nat → Nat) (H1 : Heap), va_P D vwCl (ws ++ [(q, .inl (ca 1, 6, .inr (.inr (.inr (.inr (fun i => ([r 0, r 1, r 2, r 3, r 4, r 5] : List Nat)[i]?)))))), (r 0, .inl (ca 0, 6, .inl (fun _ => 0))), (r 1, .inl (ca 0, 6, .inl (fun _ => 0))), (r 2, .inl (ca 0, 6, .inl (fun _ => 0))), (r 3, .inl (ca 0, 6, .inl (fun _ => 0))), (r 4, .inl (ca 0, 6, .inl (fun _ => 0))), (r 5, .inl (ca 0, 6, .inl (fun _ => 0)))]) H1 → va_D A (ws ++ [(q, .inl (ca 1, 6, .inr (.inr (.inr (.inr (fun i => ([r 0, r 1, r 2, r 3, r 4, r 5] : List Nat)[i]?)))))), (r 0, .inl (ca 0, 6, .inl (fun _ => 0))), (r 1, .inl (ca 0, 6, .inl (fun _ => 0))), (r 2, .inl (ca 0, 6, .inl (fun _ => 0))), (r 3, .inl (ca 0, 6, .inl (fun _ => 0))), (r 4, .inl (ca 0, 6, .inl (fun _ => 0))), (r 5, .inl (ca 0, 6, .inl (fun _ => 0)))]) → va_S A s.heap H1 locs → W p l e R s m args below meth c H1 locs k z Q (F0 m (pc + 4) ls (.ref q :: rest))) : W p l e R s m args below meth c H locs cells slots Q (F0 m pc ls (.int 6 :: .int 6 :: rest)) := by
  have hcy : s.vm.findClass (FieldType.array .int).toString = some (ca 0) := (hE.1.2 0 (ca 0, .int) rfl).2
  refine va_mna (X := ws) (L := []) (f := fun _ => .inl (ca 0, 6, .inl (fun _ => 0))) (ty := .int) (cy := ca 0) (z := (6, .inl (fun _ => 0))) (N' := 6) (K' := 6) hx hb hown hcl hE.2.1 harr hcy hE.1 (by rw [show va_pl [] (fun _ => Sum.inl (ca 0, 6, .inl (fun _ => 0))) = [] from rfl, List.append_nil]; exact hP) (by rw [show va_pl [] (fun _ => Sum.inl (ca 0, 6, .inl (fun _ => 0))) = [] from rfl, List.append_nil]; exact hD) hS hA (by decide) (by decide) (by decide) (by decide) (by decide) (by decide) (by decide) rfl rfl (by omega) (by omega) (fun _ => rfl) hdg (fun q r cA H1 hr1 hr2 hK1 hP1 hD1 hS1 => ?_)
  have h1 : s.vm.findClass ("[" ++ (FieldType.array .int).toString) = some cA := (hK1.2 3 (cA, .array .int) rfl).2
  have h2 : s.vm.findClass ("[" ++ (FieldType.array .int).toString) = some (ca 1) := (hK1.2 1 (ca 1, .array .int) rfl).2
  have e : cA = ca 1 := Option.some.inj (h1.symm.trans h2)
  subst e
  rw [i_pl, i_six, List.append_assoc] at hP1 hD1
  exact W.widen (k := k) (n := z) (by omega) (by omega) (kk q r H1 hP1 hD1 hS1)
end IR
